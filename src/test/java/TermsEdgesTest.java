/** The edges that the first of the Terms names: spikes, hours, wet, gloves, crossings, an hour, the fraction, refusals. */
public final class TermsEdgesTest {
    private static final Edges edges = new Edges();

    public static void main(String[] args) {
        spikes();
        hours();
        wet();
        gloves();
        crossings();
        kindsOfGloves();
        kindsOfSwiftGloves();
        kindsOfCrossings();
        kindsOfCrossingsByNumber();
        whoWaits();
        whoIsLetOver();
        whoWalks();
        theFraction();
        refused();
        edges.end();
    }

    private static void spikes() {
        edges.says("SPIKES 0 .. 23 (23: it is OVER)",
                "!glove(0,1,-1)=-2 glove(0,1,0)=0 of(0,2)=0 count(3)=0 when(0)=23",
                "glove(0,1,22)=0 of(0,2)=22 count(3)=0 when(0)=1",
                "glove(0,1,23)=0 of(0,2)=23 count(3)=1 when(0)=0 !glove(0,1,24)=-2",
                "glove(0,1,22)=0 hours(1)=1 of(0,2)=23 count(3)=1 hours(60)=1 of(0,2)=23");
    }

    private static void hours() {
        edges.says("HOURS have numbers, 0 at first (9999 at most)",
                "count(2)=0 hours(1)=0 count(2)=1 street()=0 count(2)=0",
                "166*hours(60) hours(38)=0 count(2)=9998 hours(1)=0 count(2)=9999 hours(1)=0 count(2)=9999",
                "166*hours(60) hours(38)=0 glove(0,1,0)=0 hours(60)=0 count(2)=9999 of(0,2)=1",
                Edges.LAST_HOUR + "count(2)=9999 glove(0,1,0)=0 hours(60)=0 count(2)=9999 of(0,2)=0");
    }

    private static void wet() {
        // A mitten goes 1, and 0 where it is wet.
        edges.says("WET of 6 hours (HOUR h has that of h by 6 left over)",
                "!wet(-1,4)=-2 wet(0,4)=0 glove(2,1,0) of(0,4)=0 hours(1) of(0,4)=1 hours(4) of(0,4)=1 hours(1) of(0,4)=0"
                        + " hours(1) of(0,4)=1 hours(5) of(0,4)=0 hours(1) of(0,4)=1",
                "wet(5,4)=0 !wet(6,4)=-2 glove(2,1,0) of(0,4)=1 hours(4) of(0,4)=1 hours(1) of(0,4)=0 hours(1) of(0,4)=1"
                        + " hours(5) of(0,4)=0 hours(1) of(0,4)=1",
                "wet(3,4) " + Edges.LAST_HOUR + "glove(2,1,0) of(0,4)=0 where(0,1)=0 where(0,2)=1 where(0,6)=5 where(0,7)=5"
                        + " where(0,8)=6");
        edges.says("0 .. 4 (0 at first)",
                "wet(0,0)=0 wet(1,0)=0 wet(2,0)=0 wet(3,0)=0 wet(4,0)=0 wet(5,0)=0",
                "!wet(0,-1)=-2 wet(0,4)=0 !wet(0,5)=-2 wet(0,0)=4 wet(0,1)=0 wet(0,0)=1");
    }

    private static void gloves() {
        edges.says("GLOVES 0 .. 6, as they come",
                "!of(0,0)=-2 !of(-1,0)=-2",
                "glove(5,9,23)=0 glove(4,8,19)=1 glove(3,7,15)=2 glove(2,6,11)=3 glove(1,5,7)=4 glove(0,4,3)=5 !of(6,0)=-2"
                        + " glove(5,1,0)=6 of(0,0)=5 of(0,1)=9 of(0,2)=23 of(5,0)=0 of(5,1)=4 of(5,2)=3 of(6,0)=5 of(6,1)=1"
                        + " of(6,2)=0 !of(7,0)=-2 !glove(0,1,0)=-4 count(0)=7");
        edges.says("a KIND, a MARK (1 .. 9), a SPIKE",
                "!glove(-1,1,0)=-2 glove(0,1,0)=0 glove(5,1,0)=1 !glove(6,1,0)=-2 of(0,0)=0 of(1,0)=5",
                "!glove(0,0,0)=-2 glove(0,1,0)=0 glove(0,9,0)=1 !glove(0,10,0)=-2 of(0,1)=1 of(1,1)=9");
    }

    private static void crossings() {
        edges.says("CROSSINGS 0 .. 2, as they come",
                "!about(0,0)=-2 !about(-1,0)=-2",
                "crossing(5,22)=0 crossing(3,7)=1 !about(2,0)=-2 crossing(1,0)=2 about(0,0)=5 about(0,1)=22 about(1,0)=3"
                        + " about(1,1)=7 about(2,0)=1 about(2,1)=0 !about(3,0)=-2 !crossing(0,1)=-4 count(1)=3");
        edges.says("a KIND, behind a SPIKE (0 .. 22, unlike ones)",
                "!crossing(-1,0)=-2 crossing(0,0)=0 crossing(5,1)=1 !crossing(6,2)=-2 about(0,0)=0 about(1,0)=5",
                "!crossing(0,-1)=-2 crossing(0,0)=0 crossing(0,22)=1 !crossing(0,23)=-2 about(0,1)=0 about(1,1)=22",
                "crossing(0,0)=0 !crossing(1,0)=-2 crossing(0,22)=1 !crossing(1,22)=-2 !crossing(0,0)=-2 crossing(0,1)=2");
        edges.says("open or SHUT (open at first)",
                "crossing(0,4)=0 crossing(0,5)=1 crossing(0,6)=2 about(0,2)=0 about(1,2)=0 about(2,2)=0 count(5)=0 shuts(2)=1"
                        + " about(1,2)=0 about(2,2)=1 count(5)=1 shuts(2)=0 about(2,2)=0 count(5)=0",
                "crossing(0,4)=0 shuts(0)=1 street()=0 crossing(0,4)=0 about(0,2)=0 count(5)=0");
    }

    private static void kindsOfGloves() {
        edges.says("0 WOOL: 1",
                "glove(0,1,0) of(0,4)=1 wet(0,4) of(0,4)=1 hours(1)=0 of(0,2)=1 of(0,4)=1");
        edges.says("1 LEATHER (under WOOL): 1 more than WOOL, if w is 0",
                "glove(1,1,0) of(0,4)=2 wet(0,4) of(0,4)=1 wet(0,1) of(0,4)=1 hours(1)=0 of(0,2)=1 of(0,4)=2 hours(1)=0 of(0,2)=3");
        edges.says("2 MITTEN (under WOOL): as WOOL, but 0, if w is 3 or more",
                "glove(2,1,0) of(0,4)=1 wet(0,2) of(0,4)=1 wet(0,3) of(0,4)=0 wet(0,4) of(0,4)=0",
                "glove(2,1,0) wet(0,2) wet(1,3) hours(1) of(0,2)=1 hours(1) of(0,2)=1 hours(1) of(0,2)=2");
    }

    private static void kindsOfSwiftGloves() {
        edges.says("3 KID (under LEATHER): twice LEATHER, if h is an even number, else as LEATHER",
                "glove(3,1,0) of(0,4)=4 wet(0,1) of(0,4)=2 hours(1) of(0,2)=2 of(0,4)=2 wet(1,1) of(0,4)=1 hours(1) of(0,2)=3"
                        + " of(0,4)=4 hours(1) of(0,2)=7",
                "166*hours(60) hours(38) glove(3,1,0) of(0,4)=4 hours(1) of(0,2)=4 of(0,4)=2 where(0,1)=6 where(0,2)=10");
        edges.says("4 ODD (under WOOL): as WOOL, 3 more, if 5 divides h",
                "wet(0,4) glove(4,1,0) of(0,4)=4 hours(1) of(0,2)=4 of(0,4)=1 hours(3) of(0,4)=1 hours(1) of(0,4)=4 hours(1) of(0,4)=1"
                        + " hours(3) of(0,4)=1 hours(1) of(0,4)=4",
                "166*hours(60) hours(34) glove(4,1,0) of(0,4)=1 hours(1) of(0,4)=4 hours(1) of(0,4)=1",
                Edges.LAST_HOUR + "glove(4,1,0) of(0,4)=1 where(0,1)=1 where(0,2)=5 where(0,3)=6");
        edges.says("5 SATIN (under KID): KID less w, 0 at least",
                "glove(5,1,0) of(0,4)=4 wet(0,1) of(0,4)=1 wet(0,2) of(0,4)=0 wet(0,3) of(0,4)=0 wet(0,4) of(0,4)=0 hours(1)"
                        + " of(0,2)=0 of(0,4)=2 wet(1,1) of(0,4)=0 wet(1,2) of(0,4)=0 hours(1) of(0,2)=0 hours(1) of(0,2)=4");
    }

    private static void kindsOfCrossings() {
        edges.says("0 PLAIN: 2, if h is an even number, else 0",
                "crossing(0,4) glove(0,1,4) shuts(0) about(0,4)=2 hours(1) about(0,4)=0 hours(1) about(0,4)=2",
                "166*hours(60) hours(38) crossing(0,4) glove(0,1,4) shuts(0) about(0,4)=2 hours(1) about(0,4)=0");
        edges.says("1 BUSY (under PLAIN): 1 less than PLAIN, 0 at least",
                "crossing(1,4) glove(0,1,4) shuts(0) about(0,4)=1 hours(1) about(0,4)=0 shuts(0) hours(1) of(0,2)=4 hours(1)"
                        + " of(0,2)=5");
        edges.says("4 NIGHT (under PLAIN): n, if h by 8 leaves 6 or 7 over, else as PLAIN",
                "crossing(4,4) shuts(0) 5*glove(0,1,4) about(0,4)=2 hours(5) about(0,4)=0 hours(1) about(0,4)=5 hours(1)"
                        + " about(0,4)=5 hours(1) about(0,4)=2 hours(1) about(0,4)=0 hours(4) about(0,4)=0 hours(1) about(0,4)=5"
                        + " hours(1) about(0,4)=5 hours(1) about(0,4)=2",
                "hours(6) crossing(4,4) glove(0,1,4) about(0,4)=1 6*glove(0,1,4) about(0,4)=7 hours(1) of(0,2)=5 of(6,2)=5",
                Edges.LAST_HOUR + "crossing(4,4) 3*glove(0,1,4) about(0,4)=3 where(2,1)=5");
        edges.says("5 LOCKED (under WIDE): as WIDE, but 0, if 3 divides h",
                "crossing(5,4) shuts(0) 5*glove(0,1,4) about(0,4)=0 hours(1) about(0,4)=2 hours(1) about(0,4)=4 hours(1)"
                        + " about(0,4)=0 hours(1) about(0,4)=4 hours(1) about(0,4)=2 hours(1) about(0,4)=0",
                "166*hours(60) hours(38) crossing(5,4) shuts(0) 5*glove(0,1,4) about(0,4)=4 hours(1) about(0,4)=0");
    }

    private static void kindsOfCrossingsByNumber() {
        edges.says("2 WIDE (under PLAIN): PLAIN and half (cut) of n",
                "crossing(2,4) glove(0,1,4) about(0,4)=2 glove(0,1,4) about(0,4)=3 glove(0,1,4) about(0,4)=3 glove(0,1,4)"
                        + " about(0,4)=4 2*glove(0,1,4) about(0,4)=5 glove(0,1,4) about(0,4)=5 hours(1) of(4,2)=5 of(5,2)=4",
                "hours(1) crossing(2,4) glove(0,1,4) about(0,4)=0 glove(0,1,4) about(0,4)=1 glove(0,1,4) about(0,4)=1"
                        + " 4*glove(0,1,4) about(0,4)=3 hours(1) of(2,2)=5 of(3,2)=4");
        edges.says("3 POLICED (under BUSY): BUSY, and 1 more, if n is 4 or more",
                "crossing(3,4) glove(0,1,4) about(0,4)=1 2*glove(0,1,4) about(0,4)=1 glove(0,1,4) about(0,4)=2 3*glove(0,1,4)"
                        + " about(0,4)=2 hours(1) of(1,2)=5 of(2,2)=4",
                "hours(1) crossing(3,4) 3*glove(0,1,4) about(0,4)=0 glove(0,1,4) about(0,4)=1 3*glove(0,1,4) about(0,4)=1"
                        + " hours(1) of(0,2)=5 of(1,2)=4");
    }

    private static void whoWaits() {
        edges.says("who WAITS, at a SPIKE with a CROSSING behind it",
                "crossing(0,4) glove(0,1,4) glove(0,1,3) glove(0,1,5) of(0,3)=1 of(1,3)=0 of(2,3)=0 count(4)=1 shuts(0) of(0,3)=1"
                        + " count(4)=1",
                "crossing(0,0) crossing(0,22) glove(0,1,0) glove(0,1,22) glove(0,1,23) glove(0,1,1) glove(0,1,21) of(0,3)=1"
                        + " of(1,3)=1 of(2,3)=0 of(3,3)=0 of(4,3)=0 count(4)=2");
        // In hour 1 a wide one lets half of n over, so that of 1 none goes over and of 2 one.
        edges.says("(all who are there ahead of it)",
                "hours(1) crossing(2,4) glove(0,1,4) glove(0,1,3) hours(1) of(0,2)=4 of(1,2)=4",
                "hours(1) crossing(2,4) glove(0,1,3) glove(0,1,4) hours(1) of(0,2)=4 of(1,2)=4",
                "crossing(0,4) glove(0,1,3) glove(0,1,4) hours(1) of(0,2)=4 of(1,2)=5",
                "crossing(0,4) crossing(0,5) glove(0,1,4) glove(0,1,5) hours(1) of(0,2)=5 of(1,2)=6",
                "crossing(0,5) crossing(0,4) glove(0,1,4) glove(0,1,5) hours(1) of(0,2)=5 of(1,2)=6",
                "crossing(1,4) crossing(1,5) glove(0,1,4) glove(0,1,5) hours(1) of(0,2)=5 of(1,2)=6 hours(1) of(0,2)=5 hours(1)"
                        + " of(0,2)=6");
    }

    private static void whoIsLetOver() {
        edges.says("if it is open",
                "crossing(0,4) glove(0,1,4) shuts(0)=1 hours(1) of(0,2)=4 hours(60) of(0,2)=4 shuts(0)=0 hours(1) of(0,2)=4"
                        + " hours(1) of(0,2)=5");
        edges.says("of these so many as it lets go over to the next SPIKE, by numbers, no farther",
                "crossing(0,4) glove(3,1,4) hours(1) of(0,2)=5",
                "crossing(0,4) 2*glove(3,1,4) hours(1) of(0,2)=5 of(1,2)=5",
                "crossing(0,4) glove(0,1,0) glove(0,1,4) glove(0,1,9) glove(0,1,4) glove(0,1,4) hours(1) of(0,2)=1 of(1,2)=5"
                        + " of(2,2)=10 of(3,2)=5 of(4,2)=4",
                "crossing(0,22) glove(3,1,22) hours(1)=1 of(0,2)=23",
                "crossing(0,0) glove(3,1,0) hours(1)=0 of(0,2)=1",
                "crossing(0,4) crossing(0,5) glove(3,1,4) hours(1) of(0,2)=5 of(0,3)=1");
        edges.says("the others stay",
                "crossing(0,4) 3*glove(3,1,4) hours(1) of(0,2)=5 of(1,2)=5 of(2,2)=4",
                "crossing(1,4) 7*glove(3,1,4) hours(1) of(0,2)=5 of(1,2)=4 of(6,2)=4",
                "hours(1) crossing(0,4) glove(3,1,4) hours(1) of(0,2)=4");
    }

    private static void whoWalks() {
        // In hour 0 a kid goes 4.
        edges.says("not beyond the next SPIKE with a CROSSING behind it (open or SHUT)",
                "crossing(0,6) glove(3,1,5) hours(1) of(0,2)=6 of(0,3)=1",
                "crossing(0,6) glove(3,1,5) shuts(0) hours(1) of(0,2)=6 of(0,3)=1",
                "crossing(0,8) glove(3,1,5) hours(1) of(0,2)=8",
                "crossing(0,9) glove(3,1,5) hours(1) of(0,2)=9 of(0,3)=1",
                "crossing(0,10) glove(3,1,5) hours(1) of(0,2)=9 of(0,3)=0",
                "crossing(0,8) crossing(0,7) glove(3,1,5) hours(1) of(0,2)=7",
                "crossing(0,7) crossing(0,8) glove(3,1,5) hours(1) of(0,2)=7",
                "crossing(0,4) glove(3,1,5) hours(1) of(0,2)=9",
                "crossing(0,22) glove(3,1,20) hours(1)=0 of(0,2)=22");
        edges.says("nor beyond 23",
                "glove(3,1,18) glove(3,1,19) glove(3,1,20) glove(3,1,22) glove(3,1,23) hours(1)=4 of(0,2)=22 of(1,2)=23 of(2,2)=23"
                        + " of(3,2)=23 of(4,2)=23");
        edges.says("The HOUR is one more",
                "hours(1) count(2)=1 hours(59) count(2)=60 hours(60) count(2)=120");
    }

    private static void theFraction() {
        edges.says("THE FRACTION is 0 by 1 at first",
                "part(0)=0 part(1)=1");
        edges.says("lowest terms, below above 0",
                "rain(5)=1 part(0)=0 part(1)=1",
                "crossing(0,4) glove(0,1,4) rain(5)=1 part(0)=0 part(1)=1",
                "glove(2,1,0) rain(10)=1 part(0)=0 part(1)=1 rain(9)=1 part(0)=1 part(1)=10 rain(8)=1 part(0)=1 part(1)=5",
                "glove(1,1,0) rain(3)=1 part(0)=17 part(1)=10 rain(5)=1 part(0)=3 part(1)=2 rain(2)=1 part(0)=9 part(1)=5"
                        + " rain(10)=1 part(0)=1 part(1)=1 rain(0)=1 part(0)=2 part(1)=1",
                "7*glove(3,1,0) rain(0)=1 part(0)=28 part(1)=1");
    }

    private static void refused() {
        edges.says("Refused, changing nothing but STATUS, the first of: BAD -2 a number is not as told; NO -3 as told; FULL -4",
                "!from(-1)=-2 !from(2)=-2 !from(0)=-3 !from(1)=-3 !undo()=-3",
                "7*glove(0,1,0) !glove(6,1,0)=-2 !glove(0,10,0)=-2 !glove(0,1,24)=-2 !glove(0,1,0)=-4",
                "crossing(0,0) crossing(0,1) crossing(0,2) !crossing(6,3)=-2 !crossing(0,23)=-2 !crossing(0,2)=-2 !crossing(0,3)=-4",
                "150*type(59) !type(-1)=-2 !type(128)=-2 !type(0)=-4 !type(127)=-4",
                "5*seen(0,0) !seen(61,0)=-2 !seen(0,24)=-2 !seen(0,0)=-4",
                "glove(0,1,0) 6*note(0,0,0,0) !note(1,0,0,0)=-2 !note(0,100,0,0)=-2 !note(0,0,5,0)=-2 !note(0,0,0,21)=-2"
                        + " !note(0,0,0,0)=-4",
                "crossing(0,0) 6*mark(0,0,1,0) !mark(1,0,1,0)=-2 !mark(0,100,1,0)=-2 !mark(0,0,8,0)=-2 !mark(0,0,1,21)=-2"
                        + " !mark(0,0,1,0)=-4");
        edges.says("(where others are told they count as these)",
                "!when(0)=-10 !pairs(0)=-10 !lady(0,-1)=-10 !status(3)=-1 status(0)=4 status(1)=0 status(2)=0");
    }
}
