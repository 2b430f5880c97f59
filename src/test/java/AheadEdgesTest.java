/** The edges that the second of the Terms names: what will be, which it was, what rests, rain, winters, undo, images. */
public final class AheadEdgesTest {
    private static final Edges edges = new Edges();

    // A mitten goes 1 in the 1st hour from here, in the 6th and 7th, the 12th and 13th, .. the 60th and 61st.
    private static final String SLOW = "street;wet 4 4 4 4;hours 5;glove 2 1 ";

    public static void main(String[] args) {
        nothingIsChanged();
        hoursGoBeyondTheLast();
        goesAndLets();
        whereAndWhen();
        pairs();
        theFirstWay();
        heap();
        hold();
        drop();
        seenAndWhich();
        tell();
        notes();
        look();
        marks();
        ask();
        lady();
        rain();
        winters();
        undo();
        whatMayBeUndone();
        images();
        statusCounts();
        edges.end();
    }

    private static void nothingIsChanged() {
        edges.says("(Nothing is changed by these",
                Edges.SOME + " ?of(0,4) ?about(0,4) ?where(0,60) ?when(-1) ?when(0) ?pairs(-1) ?pairs(1) ?heap(0) ?heap(2) ?hold(60)"
                        + " ?drop(3,1,30) ?which() ?tell() ?is(0) ?look(0) ?kinds(1) ?ask(1) ?lady(0,-1) ?lady(0,0) ?lady(2,99)"
                        + " ?winters(999999,60)",
                Edges.FULL + " ?where(6,60) ?when(-1) ?pairs(6) ?heap(1) ?hold(1) ?drop(5,6,1) ?which() ?tell() ?is(6) ?look(6)"
                        + " ?kinds(2) ?ask(2) ?lady(6,-1) ?winters(0,60)",
                "?when(-1)=0 ?pairs(-1)=0 ?heap(0)=0 ?heap(1)=0 ?heap(2)=-1 ?hold(60)=0 ?which()=0 ?tell()=-1 ?winters(1,60)=0");
    }

    private static void hoursGoBeyondTheLast() {
        // Wool goes 1; in dry hour 9999 leather goes 2, a plain crossing lets none over, in hour 10000 it lets 2 over.
        edges.says("HOURS go beyond 9999 in them.)",
                Edges.LAST_HOUR + "glove(0,1,0) ?where(0,1)=1 ?where(0,60)=23 count(2)=9999",
                Edges.LAST_HOUR + "glove(0,1,22) ?when(0)=1 ?when(-1)=1",
                Edges.LAST_HOUR + "glove(0,1,0) crossing(0,1) ?heap(0)=1 ?heap(1)=1 ?heap(2)=1",
                Edges.LAST_HOUR + "glove(0,1,22) ?hold(1)=-1",
                Edges.LAST_HOUR + "glove(0,1,22) crossing(0,22) ?hold(1)=0 ?hold(2)=1",
                Edges.LAST_HOUR + "glove(0,1,5) ?drop(1,0,1)=16",
                Edges.LAST_HOUR + "glove(0,1,0) seen(1,1) ?which()=1 seen(60,23) ?which()=1",
                Edges.LAST_HOUR + "glove(0,1,0) glove(1,1,0) ?tell()=1",
                Edges.LAST_HOUR + "glove(0,1,8) ?lady(0,-1)=0 crossing(0,8) shuts(0) ?lady(0,-1)=1",
                Edges.LAST_HOUR + "glove(0,1,22) ?winters(7,0)=0 ?winters(7,1)=1 count(2)=9999");
    }

    private static void goesAndLets() {
        edges.says("GOES of a GLOVE now (waiting or not)",
                "glove(3,1,4) glove(3,1,5) glove(3,1,23) crossing(0,4) of(0,3)=1 of(0,4)=4 of(1,3)=0 of(1,4)=4 of(2,4)=4 shuts(0)"
                        + " of(0,4)=4");
        edges.says("LETS of a CROSSING now (nobody waits: 0; open or SHUT)",
                "crossing(0,4) about(0,4)=0 glove(0,1,3) about(0,4)=0 glove(0,1,4) about(0,4)=2 shuts(0) about(0,4)=2",
                "hours(6) crossing(4,4) about(0,4)=0 shuts(0) about(0,4)=0 glove(0,1,4) about(0,4)=1 shuts(0) about(0,4)=1",
                "hours(2) crossing(5,4) glove(0,1,5) about(0,4)=0 glove(0,1,4) about(0,4)=2");
    }

    private static void whereAndWhen() {
        edges.says("WHERE a GLOVE is behind m (0 .. 60) HOURS.",
                "(" + SLOW + "3;) !where(0,-1)=-2 where(0,0)=3 where(0,1)=4 where(0,59)=22 where(0,60)=23 !where(0,61)=-2",
                "(" + SLOW + "2;) where(0,59)=21 where(0,60)=22 !where(0,61)=-2");
        edges.says("WHEN: in how many HOURS (0 .. 60) it is OVER first; all are; none.",
                "glove(0,1,23) when(0)=0 when(-1)=0",
                "glove(0,1,22) when(0)=1 when(-1)=1",
                "(" + SLOW + "3;) when(0)=60 when(-1)=60",
                "(" + SLOW + "2;) when(0)=-1 when(-1)=-1",
                "(" + SLOW + "3;glove 0 1 0;) when(1)=23 when(-1)=60",
                "(" + SLOW + "2;glove 0 1 23;) when(0)=-1 when(1)=0 when(-1)=-1",
                "glove(0,1,0) crossing(0,22) shuts(0) when(0)=-1 glove(0,1,23) when(1)=0 when(-1)=-1");
    }

    private static void pairs() {
        edges.says("two GLOVES of one KIND whose MARKS are unlike by 1 or less",
                "glove(0,5,0) glove(0,5,9) pairs(-1)=1 pairs(0)=1 pairs(1)=0",
                "glove(0,5,0) glove(0,6,9) pairs(-1)=1 pairs(0)=1 pairs(1)=0",
                "glove(0,6,0) glove(0,5,9) pairs(-1)=1 pairs(0)=1 pairs(1)=0",
                "glove(0,5,0) glove(0,7,0) pairs(-1)=0 pairs(0)=-1 pairs(1)=-1",
                "glove(0,7,0) glove(0,5,0) pairs(-1)=0 pairs(0)=-1 pairs(1)=-1",
                "glove(0,1,0) glove(0,9,0) pairs(-1)=0",
                "glove(0,5,0) glove(1,5,0) pairs(-1)=0 pairs(0)=-1",
                "glove(4,9,0) glove(4,8,0) pairs(-1)=1",
                "glove(5,1,23) glove(5,2,23) pairs(-1)=1");
        edges.says("nobody in two: the most pairs",
                "pairs(-1)=0 !pairs(0)=-10",
                "glove(0,1,0) pairs(-1)=0 pairs(0)=-1 !pairs(1)=-10",
                "glove(0,4,0) glove(0,5,0) glove(0,6,0) pairs(-1)=1",
                "glove(0,2,0) glove(0,3,0) glove(0,1,0) glove(0,4,0) pairs(-1)=2 pairs(0)=2 pairs(1)=3 pairs(2)=0 pairs(3)=1",
                "7*glove(0,1,0) pairs(-1)=3 street() glove(0,1,0) glove(1,1,0) glove(2,1,0) glove(3,1,0) glove(4,1,0) pairs(-1)=0");
    }

    private static void theFirstWay() {
        edges.says("with whom one is in the first such way (GLOVES by numbers, each alone (NONE) first, then by whom rising)",
                "3*glove(0,1,0) pairs(0)=-1 pairs(1)=2 pairs(2)=1",
                "4*glove(0,1,0) pairs(0)=1 pairs(1)=0 pairs(2)=3 pairs(3)=2",
                "7*glove(0,1,0) pairs(0)=-1 pairs(1)=2 pairs(2)=1 pairs(3)=4 pairs(4)=3 pairs(5)=6 pairs(6)=5",
                "glove(0,1,0) glove(1,1,0) glove(0,1,0) glove(1,1,0) glove(0,1,0) pairs(0)=-1 pairs(1)=3 pairs(2)=4 pairs(4)=2",
                "glove(0,2,0) glove(0,1,0) glove(0,3,0) pairs(-1)=1 pairs(0)=1 pairs(1)=0 pairs(2)=-1");
    }

    private static void heap() {
        edges.says("HEAP: the most GLOVES that WAIT at one SPIKE behind 0 to 30 HOURS: how many",
                "crossing(0,4) glove(0,1,4) heap(0)=1 heap(1)=0 heap(2)=4",
                "(" + SLOW + "0;crossing 0 10;) heap(0)=1 heap(1)=30 heap(2)=10",
                "(" + SLOW + "0;crossing 0 11;) heap(0)=0 heap(1)=0 heap(2)=-1",
                "crossing(0,4) 7*glove(0,1,4) heap(0)=7 heap(1)=0",
                "crossing(0,4) crossing(0,9) 3*glove(0,1,9) 4*glove(0,1,4) heap(0)=4 heap(2)=4");
        edges.says("the first number of HOURS",
                "crossing(0,3) crossing(0,9) glove(0,1,5) glove(0,1,0) heap(0)=1 heap(1)=3 heap(2)=3",
                "crossing(0,3) shuts(0) glove(0,1,0) glove(0,1,3) heap(0)=2 heap(1)=3",
                "crossing(0,3) shuts(0) 2*glove(0,1,3) heap(0)=2 heap(1)=0");
        edges.says("the SPIKE then (the least of like ones; none: nobody ever WAITS)",
                "crossing(0,9) crossing(0,2) glove(0,1,9) glove(0,1,2) heap(0)=1 heap(2)=2",
                "crossing(0,2) crossing(0,9) glove(0,1,9) glove(0,1,2) heap(0)=1 heap(2)=2",
                "crossing(0,22) crossing(0,0) glove(0,1,22) glove(0,1,0) heap(2)=0",
                "heap(0)=0 heap(1)=0 heap(2)=-1",
                "glove(0,1,4) heap(0)=0 heap(1)=0 heap(2)=-1",
                "crossing(0,3) glove(0,1,4) glove(0,1,23) heap(0)=0 heap(1)=0 heap(2)=-1");
    }

    private static void hold() {
        edges.says("HOLD for m (1 .. 60)",
                "glove(0,1,22) !hold(0)=-2 hold(1)=-1 hold(60)=-1 !hold(61)=-2",
                "glove(0,1,21) hold(1)=0 hold(2)=-1",
                "(" + SLOW + "3;) hold(59)=0 hold(60)=-1",
                "(" + SLOW + "2;) hold(60)=0");
        edges.says("the fewest CROSSINGS (of all, bits; of like ones the least) to be SHUT, all others open",
                "crossing(0,5) glove(0,1,0) hold(23)=0 hold(24)=1 hold(60)=1",
                "crossing(0,10) crossing(0,5) crossing(0,15) glove(0,1,0) hold(60)=1",
                "crossing(0,10) crossing(0,5) crossing(0,15) glove(0,1,12) hold(60)=4",
                "crossing(0,10) crossing(0,15) crossing(0,5) glove(0,1,0) glove(0,1,11) hold(60)=2",
                "crossing(0,5) shuts(0) glove(0,1,0) hold(23)=0 hold(24)=1",
                "crossing(0,5) crossing(0,9) shuts(0) glove(0,1,7) hold(60)=2 shuts(1) hold(60)=2");
        edges.says("so that nothing that is not OVER now is OVER behind m HOURS; none.",
                "hold(1)=0 hold(60)=0",
                "glove(0,1,23) hold(1)=0 hold(60)=0",
                "glove(0,1,23) glove(0,1,22) hold(1)=-1",
                "glove(0,1,23) glove(0,1,22) crossing(0,22) hold(1)=1",
                "crossing(0,5) glove(0,1,5) glove(0,1,6) hold(16)=0 hold(17)=-1");
    }

    private static void drop() {
        edges.says("the SPIKES (bits 0 .. 22) to be at now",
                "glove(0,1,0) drop(0,0,1)=1",
                "glove(0,1,22) drop(0,0,1)=4194304",
                "glove(0,1,23) drop(0,0,30)=8388607",
                "glove(0,1,0) drop(1,0,1)=0",
                "glove(0,1,23) drop(0,0,1)=4194304 drop(3,0,1)=7864320");
        edges.says("as one more (the last by number)",
                "crossing(0,4) 2*glove(0,1,4) drop(0,0,1)=0 drop(0,1,1)=0",
                "crossing(0,4) glove(0,1,4) drop(0,0,1)=16",
                "hours(1) crossing(2,4) glove(0,1,4) drop(0,0,1)=8",
                "hours(1) crossing(2,4) 7*glove(0,1,4) count(0)=7 drop(0,3,1)=8 drop(0,4,1)=24");
        edges.says("so that both are at one SPIKE behind m (1 .. 30) HOURS.",
                "(" + SLOW + "5;) !drop(2,0,0)=-2 drop(2,0,1)=32 drop(0,0,30)=0 !drop(2,0,31)=-2",
                "(" + SLOW + "5;) drop(0,0,1)=32 drop(0,0,2)=16 drop(0,0,29)=0 drop(2,0,30)=32",
                "(" + SLOW + "20;) drop(0,0,6)=65536 drop(0,0,7)=8323072 drop(0,0,30)=8388607");
    }

    private static void seenAndWhich() {
        edges.says("SEEN 0 .. 4, as they come",
                "seen(0,0)=1 seen(60,23)=2 seen(1,1)=3 seen(1,1)=4 seen(2,2)=5 !seen(3,3)=-4 count(6)=5");
        edges.says("behind m (0 .. 60) HOURS from now on",
                "!seen(-1,0)=-2 !seen(61,0)=-2 glove(0,1,3) seen(0,3)=1 which()=1",
                "(" + SLOW + "3;glove 2 1 2;) seen(60,23)=1 which()=1 seen(59,22)=2 which()=1",
                "(" + SLOW + "3;glove 2 1 2;) seen(60,22)=1 which()=2 seen(0,2)=2 which()=2");
        edges.says("(as it is when that is asked, not when it was told)",
                "seen(1,1)=1 which()=0 glove(0,1,0)=0 which()=1 hours(1) which()=0 undo() which()=1 crossing(0,0) shuts(0) which()=0",
                "glove(1,1,0) seen(1,2)=1 which()=1 wet(0,1) which()=0");
        edges.says("WHICH: GLOVES (bits) that are there then by all SEEN.",
                "which()=0 seen(0,0) which()=0",
                "7*glove(0,1,0) which()=127 seen(0,0) which()=127 seen(0,1) which()=0",
                "6*glove(0,1,0) glove(0,1,1) seen(0,1) which()=64",
                "glove(0,1,0) glove(1,1,0) seen(0,0) which()=3 seen(1,2) which()=2 seen(1,1) which()=0");
    }

    private static void tell() {
        // A busy crossing parts the two that wait together, in an even hour.
        edges.says("TELL: the number of HOURS m (0 .. 20) that parts them best",
                "glove(0,1,0) glove(0,1,1) tell()=0",
                "(street;hours 1;glove 0 1 0;glove 0 1 0;crossing 1 18;) where(0,19)=18 where(0,20)=19 where(1,20)=18 tell()=20",
                "(street;glove 0 1 0;glove 0 1 0;crossing 1 20;) where(0,20)=20 where(0,21)=21 where(1,21)=20 tell()=0");
        edges.says("by which the most that are at one SPIKE are fewest; of like ones the least; none: no GLOVE.",
                "tell()=-1",
                "glove(0,1,23) tell()=0",
                "7*glove(0,1,0) tell()=0",
                "glove(0,1,0) glove(1,1,0) tell()=1 seen(1,1) tell()=0 seen(1,2) tell()=-1",
                "2*glove(0,1,0) glove(1,1,0) glove(1,1,9) tell()=1");
    }

    private static void notes() {
        edges.says("NOTES 0 .. 5, as they come",
                "glove(0,1,0) note(0,0,0,0)=1 4*note(0,1,1,1) note(0,99,4,20)=6 !note(0,0,0,0)=-4 count(7)=6");
        edges.says("a GLOVE went x (0 .. 20) in HOUR h (0 .. 99) with WET w (0 .. 4)",
                "glove(0,1,0) !note(-1,0,0,0)=-2 !note(1,0,0,0)=-2 !note(0,-1,0,0)=-2 !note(0,100,0,0)=-2 !note(0,0,-1,0)=-2"
                        + " !note(0,0,5,0)=-2 !note(0,0,0,-1)=-2 !note(0,0,0,21)=-2 count(7)=0",
                "glove(0,1,0) note(0,99,0,2)=1 is(0)=42",
                "glove(0,1,0) note(0,0,4,0)=1 is(0)=36",
                "glove(0,1,0) note(0,1,4,0)=1 is(0)=36",
                "glove(0,1,0) note(0,0,0,20)=1 is(0)=0",
                "glove(0,1,0) note(0,95,3,4)=1 is(0)=16");
        edges.says("IS: KINDS (bits) by which all NOTES of one are so.",
                "glove(0,1,0) is(0)=63 glove(0,1,0) note(1,0,0,4)=1 is(0)=63 is(1)=56 note(0,0,0,1)=2 is(0)=5 is(1)=56",
                "glove(5,1,0) note(0,0,0,1) is(0)=5 note(0,5,0,1) is(0)=5 note(0,2,3,1) is(0)=1 note(0,2,3,1) is(0)=1 note(0,2,3,0)"
                        + " is(0)=0");
    }

    private static void look() {
        edges.says("LOOK: 10 h and w (h 0 .. 9, w 0 .. 4) by which the most of these KINDS that go alike are fewest",
                "glove(0,1,0) look(0)=3 note(0,5,0,1) is(0)=5 look(0)=3",
                "glove(0,1,0) note(0,0,0,4) is(0)=56 look(0)=1",
                "glove(0,1,0) note(0,99,0,2) is(0)=42 look(0)=2");
        edges.says("of like ones the least; none: no KIND.",
                "glove(0,1,0) note(0,0,0,4) note(0,2,0,4) note(0,2,1,2) is(0)=8 look(0)=0 note(0,0,0,0) is(0)=0 look(0)=-1");
    }

    private static void marks() {
        edges.says("MARKS 0 .. 5, as they come",
                "crossing(0,0) mark(0,0,1,0)=1 4*mark(0,1,1,1) mark(0,99,7,20)=6 !mark(0,0,1,0)=-4 count(8)=6");
        edges.says("a CROSSING let x (0 .. 20) over in HOUR h (0 .. 99), n (1 .. 7) waiting",
                "crossing(0,0) !mark(-1,0,1,0)=-2 !mark(1,0,1,0)=-2 !mark(0,-1,1,0)=-2 !mark(0,100,1,0)=-2 !mark(0,0,0,0)=-2"
                        + " !mark(0,0,8,0)=-2 !mark(0,0,1,-1)=-2 !mark(0,0,1,21)=-2 count(8)=0",
                "crossing(0,0) mark(0,99,7,3)=1 kinds(0)=4",
                "crossing(0,0) mark(0,0,1,2)=1 kinds(0)=21",
                "crossing(0,0) mark(0,0,1,0)=1 kinds(0)=32",
                "crossing(0,0) mark(0,95,7,7)=1 kinds(0)=16",
                "crossing(0,0) mark(0,0,1,20)=1 kinds(0)=0");
        edges.says("WHAT: KINDS of CROSSINGS (bits) by which all MARKS of one are so.",
                "crossing(0,0) kinds(0)=63 crossing(0,1) mark(1,0,1,1)=1 kinds(0)=63 kinds(1)=10 mark(1,1,4,1)=2 kinds(1)=8"
                        + " mark(1,1,3,1)=3 kinds(1)=0 kinds(0)=63");
    }

    private static void ask() {
        edges.says("ASK: 10 h and n (h 0 .. 23, n 1 .. 7) by which the most of these KINDS that let over alike are fewest",
                "crossing(0,0) ask(0)=2 mark(0,0,1,1) kinds(0)=10 ask(0)=4",
                "crossing(0,0) mark(0,1,1,0) mark(0,6,1,1) kinds(0)=26 ask(0)=64",
                "crossing(0,0) mark(0,0,1,2) kinds(0)=21 ask(0)=65",
                "crossing(0,0) mark(0,0,1,2) mark(0,0,2,2) kinds(0)=17 ask(0)=61");
        edges.says("of like ones the least; none: no KIND. LADY",
                "crossing(0,0) mark(0,0,1,0) kinds(0)=32 ask(0)=1 mark(0,2,1,0) kinds(0)=0 ask(0)=-1");
    }

    private static void lady() {
        String held = "crossing(0,%d) glove(0,1,%d) shuts(0) lady(0,-1)=%s";
        edges.says("a lady waits for a GLOVE at SPIKE i (0 .. 9), a constable stands at SPIKE j (0 .. 9)",
                held.formatted(0, 0, "1 lady(0,0)=0 lady(0,1)=-5"),
                held.formatted(9, 9, "3 lady(0,0)=90 lady(0,1)=91 lady(0,2)=92 lady(0,3)=-5"),
                held.formatted(10, 10, "0 lady(0,0)=-5"),
                held.formatted(22, 22, "0 lady(0,0)=-5"),
                "glove(0,1,23) lady(0,-1)=0");
        edges.says("she gets 5, if it is at i behind any of 0 to 30 HOURS, less a third (cut) of i, and 3 less, if i is j",
                held.formatted(2, 2, "1 lady(0,0)=22"),
                held.formatted(3, 3, "1 lady(0,0)=33"),
                held.formatted(5, 5, "1 lady(0,0)=55"),
                held.formatted(6, 6, "1 lady(0,0)=66"),
                held.formatted(8, 8, "1 lady(0,0)=88"),
                // She would rather be where it comes by, too: nothing rests.
                "glove(0,1,8) lady(0,-1)=0",
                "glove(0,1,9) lady(0,-1)=3 lady(0,0)=90",
                "crossing(0,8) glove(0,1,8) lady(0,-1)=0");
        // At 9 he gets 0 by her side as at 0, 1 and 2 without her, less at 3 and beyond; at 8 he gets 1 by her side.
        edges.says("he gets 3, if i is j, less a third (cut) of j: pairs 10 i and j that rest (neither would get more elsewhere)",
                held.formatted(9, 9, "3 lady(0,0)=90 lady(0,2)=92 lady(0,3)=-5"),
                held.formatted(8, 8, "1 lady(0,0)=88 lady(0,1)=-5"),
                held.formatted(10, 10, "0"));
    }

    private static void rain() {
        edges.says("by c of 10 (0 .. 10) this HOUR is WET by 4, else by 0",
                "glove(1,1,0) !rain(-1)=-2 rain(0)=1 part(0)=2 part(1)=1 rain(10)=1 part(0)=1 part(1)=1 !rain(11)=-2",
                "wet(0,4) glove(1,1,0) rain(0)=1 part(0)=2 rain(1)=1 part(0)=19 part(1)=10",
                "hours(5) glove(3,1,0) glove(4,1,0) rain(0)=1 part(0)=6 rain(10)=1 part(0)=5");
        edges.says("all GLOVES that do not WAIT go in it, in the mean, by KINDS alone (whatever CROSSINGS, the end)",
                "rain(10)=1 part(0)=0 part(1)=1",
                "glove(3,1,4) crossing(0,4) rain(0)=1 part(0)=0 shuts(0) rain(0)=1 part(0)=0",
                "glove(3,1,3) crossing(0,4) rain(0)=1 part(0)=4",
                "glove(3,1,22) rain(0)=1 part(0)=4",
                "glove(3,1,23) rain(0)=1 part(0)=4",
                "glove(3,1,4) glove(3,1,23) glove(0,1,0) crossing(0,4) rain(0)=1 part(0)=5");
    }

    private static void winters() {
        edges.says("WINTERS by a SEED (0 .. 999999), n (0 .. 60) HOURS",
                "!winters(-1,0)=-2 winters(0,0)=0 winters(999999,60)=0 !winters(1000000,0)=-2 !winters(0,-1)=-2 !winters(0,61)=-2",
                "glove(0,1,23) glove(0,1,22) winters(0,0)=1 winters(0,1)=2",
                "(" + SLOW + "3;) winters(0,59)=0 winters(0,60)=1",
                "(" + SLOW + "2;) winters(999999,60)=0");
        // By these seeds crossing 0, shut, is opened at once and is not; the other one is 48 hours from it.
        edges.says("X is SEED at first; ahead of each HOUR X becomes X times 1103515245 and 12345, by 2147483648 what is left over",
                "crossing(0,22) shuts(0) glove(0,1,22) winters(0,1)=1 winters(999999,1)=1 winters(1,8)=0 winters(1,9)=1"
                        + " winters(999998,4)=0 winters(999998,5)=1",
                "crossing(0,22) shuts(0) glove(0,1,22) winters(22574,48)=0 winters(22574,49)=1 winters(117050,44)=0"
                        + " winters(117050,45)=1",
                "crossing(0,22) glove(0,1,22) winters(0,12)=0 winters(0,13)=1 winters(999999,8)=0 winters(999999,9)=1");
        edges.says("by 4 left over (not there: none)",
                "crossing(0,0) crossing(0,22) shuts(1) glove(0,1,22) winters(0,4)=0 winters(0,5)=1 winters(1,2)=0 winters(1,3)=1",
                "crossing(0,0) crossing(0,1) crossing(0,22) shuts(2) glove(0,1,22) winters(0,4)=0 winters(0,5)=1 winters(1,1)=1",
                "glove(0,1,0) winters(1,22)=0 winters(1,23)=1");
    }

    private static void undo() {
        edges.says("UNDO: where GLOVES are, which CROSSINGS are SHUT, the HOUR as ahead of the last HOURS gone by, SHUTTING, opening",
                "crossing(0,4) crossing(0,9) glove(0,1,0) hours(5) of(0,2)=5 shuts(1)=1 undo()=5 of(0,2)=5 about(1,2)=0 undo()=0"
                        + " of(0,2)=0 count(2)=0 !undo()=-3",
                "crossing(0,4) shuts(0)=1 shuts(0)=0 undo()=0 about(0,2)=1 undo()=0 about(0,2)=0",
                "glove(0,1,0) hours(1) seen(1,1) note(0,1,1,1) rain(0)=1 undo()=0 count(6)=1 count(7)=1 part(0)=1");
    }

    private static void whatMayBeUndone() {
        edges.says("(8 at most; behind a WET told, a GLOVE, a CROSSING that comes none may be)",
                "!undo()=-3 hours(1) count(9)=1 undo()=0 count(9)=0 !undo()=-3",
                "8*hours(1) count(9)=8 8*undo() count(2)=0 !undo()=-3",
                "9*hours(1) count(9)=8 8*undo() count(2)=1 !undo()=-3",
                "crossing(0,0) 10*shuts(0) count(9)=8 7*undo() about(0,2)=1 undo()=0 about(0,2)=0 !undo()=-3",
                "3*hours(1) wet(0,1)=0 count(9)=0 !undo()=-3 count(2)=3",
                "3*hours(1) wet(0,0)=0 count(9)=0 !undo()=-3",
                "3*hours(1) glove(0,1,0)=0 count(9)=0 !undo()=-3 count(2)=3",
                "3*hours(1) crossing(0,0)=0 count(9)=0 !undo()=-3 count(2)=3",
                "3*hours(1) !wet(6,0)=-2 !glove(0,0,0)=-2 !crossing(0,23)=-2 count(9)=3 undo()=2",
                "7*glove(0,1,0) crossing(0,0) crossing(0,1) crossing(0,2) hours(1) !glove(0,1,0)=-4 !crossing(0,3)=-4 undo()=0");
    }

    private static void images() {
        edges.says("IMAGES 0, 1 keep all but them, THE TEXT, THE FRACTION and STATUS",
                "!image(-1)=-2 !from(0)=-3 image(0)=1 !from(1)=-3 image(1)=1 !image(2)=-2 from(0)=1 from(1)=1",
                "image(0)=1 (street;glove 1 1 0;crossing 0 9;shut 0;hours 1;) wet(0,4) seen(1,1) note(0,1,1,1) mark(0,1,1,1) rain(3)"
                        + " hours(1) from(0)=1 count(0)=0 count(1)=0 count(2)=0 count(5)=0 count(6)=0 count(7)=0 count(8)=0 count(9)=0"
                        + " count(10)=47 part(0)=17 part(1)=10 wet(0,0)=0",
                "glove(0,1,0) image(0)=1 hours(1) image(1)=1 hours(1) from(0)=1 of(0,2)=0 count(2)=0 from(1)=1 of(0,2)=1 count(2)=1"
                        + " from(1)=1 of(0,2)=1 hours(3) image(1)=1 from(0)=1 count(2)=0 from(1)=1 of(0,2)=4",
                "glove(0,1,0) crossing(0,0) seen(1,1) note(0,1,1,1) mark(0,1,4,1) image(1)=1 forget(0) forget(1) forget(2) seen(0,0)"
                        + " note(0,0,0,4) mark(0,0,1,0) which()=1 is(0)=56 kinds(0)=32 from(1)=1 which()=1 is(0)=31 kinds(0)=8",
                "image(0) wet(6,6) undo() 3*crossing(0,0) crossing(0,1) crossing(0,2) crossing(0,3) type(32) from(0) status(0)=3"
                        + " status(1)=1 status(2)=1 count(10)=1 count(1)=0");
        edges.says("what may be undone they keep; it goes on from one",
                "9*hours(1) image(0)=1 street() hours(7) from(0)=1 count(9)=8 8*undo() count(2)=1 !undo()=-3 from(0)=1 count(9)=8",
                "image(0)=1 hours(1) from(0)=1 count(9)=0 !undo()=-3",
                "hours(2) image(1)=1 wet(0,1) count(9)=0 from(1)=1 undo()=0");
    }

    private static void statusCounts() {
        edges.says("STATUS: how many calls were refused as BAD, NO, FULL (each answer told so below is such a one).",
                "status(0)=0 status(1)=0 status(2)=0 wet(6,6)=-2 status(0)=1 when(0)=-10 status(0)=2 undo()=-3 status(1)=1 from(1)=-3"
                        + " status(1)=2 150*type(32) type(32)=-4 status(2)=1 read()=-160 glove(0,1,0) lady(0,9)=-5 heap(2)=-1"
                        + " status(0)=2 status(1)=2 status(2)=1 !status(-1)=-1 !status(3)=-1 status(0)=4 status(1)=2 status(2)=1");
    }
}
