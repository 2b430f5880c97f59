import java.math.BigInteger;

/** The edges that promises 1 to 38 name: what is there at first, each call's numbers, what is empty, what is full. */
public final class CallsEdgesTest {
    private static final Edges edges = new Edges();

    private static final int[] KINDS = {0, 5};
    private static final int[] SPIKES = {0, 23};
    private static final int[] HOURS = {0, 60};

    // The gloves and crossings that are there in Edges.SOME, and in Edges.FULL.
    private static final int[] GLOVES = {0, 2};
    private static final int[] CROSSINGS = {0, 1};
    private static final int[] ALL_GLOVES = {0, 6};
    private static final int[] ALL_CROSSINGS = {0, 2};

    public static void main(String[] args) {
        nothingIsThere();
        nothingIsAskedOfNone();
        street();
        aStreet();
        theText();
        hoursGoBy();
        shutsAndUndo();
        ofAndAbout();
        whereAndWhen();
        ahead();
        whichItWas();
        guesses();
        ladyRainWinters();
        whatThereIs();
        imageAndFrom();
        asManyCallsAsThereMayBe();
        digestOfNothing();
        digestOfSome();
        digestOfAll();
        edges.end();
    }

    private static void nothingIsThere() {
        edges.says("As told; nothing is there.",
                "count(0)=0 count(1)=0 count(2)=0 count(3)=0 count(4)=0 count(5)=0 count(6)=0 count(7)=0 count(8)=0 count(9)=0"
                        + " count(10)=0 part(0)=0 part(1)=1 status(0)=0 status(1)=0 status(2)=0",
                "street()=0 clear()=0 forget(0)=0 forget(1)=0 forget(2)=0 ?read()=-10 hours(1)=0",
                "!undo()=-3 !from(0)=-3 !from(1)=-3",
                "when(-1)=0 pairs(-1)=0 heap(0)=0 heap(1)=0 heap(2)=-1 hold(1)=0 hold(60)=0 which()=0 tell()=-1 winters(0,60)=0",
                "wet(0,0)=0 wet(1,0)=0 wet(2,0)=0 wet(3,0)=0 wet(4,0)=0 wet(5,0)=0");
    }

    private static void nothingIsAskedOfNone() {
        edges.says("As told; nothing is there.",
                "!of(0,0)=-2 !where(0,0)=-2 !when(0)=-10 !pairs(0)=-10 !drop(0,0,1)=-2 !note(0,0,0,0)=-2 !is(0)=-2 !look(0)=-2"
                        + " !lady(0,-1)=-10 !lady(-1,-1)=-10",
                "!about(0,0)=-2 !shuts(0)=-2 !mark(0,0,1,0)=-2 !kinds(0)=-2 !ask(0)=-2",
                "glove(0,1,0) !about(0,0)=-2 !shuts(0)=-2 !mark(0,0,1,0)=-2 !kinds(0)=-2 !ask(0)=-2",
                "!wet(6,0)=-2 !glove(6,1,0)=-2 !crossing(6,0)=-2 !type(128)=-2 !hours(0)=-2 !heap(3)=-2 !hold(0)=-2 !seen(61,0)=-2"
                        + " !forget(3)=-2 !rain(11)=-2 !winters(-1,0)=-2 !part(2)=-2 !image(2)=-2 !from(2)=-2 !status(3)=-1 !count(11)=-2",
                "crossing(0,0) !of(0,0)=-2 !where(0,0)=-2 !when(0)=-10 !pairs(0)=-10 !drop(0,0,1)=-2 !note(0,0,0,0)=-2 !is(0)=-2"
                        + " !look(0)=-2 !lady(0,0)=-10");
    }

    private static void street() {
        edges.says("All as at first (but for IMAGES, THE TEXT, THE FRACTION, STATUS): how many GLOVES there were.",
                "street()=0 street()=0",
                Edges.FULL + " street()=7 street()=0 count(0)=0 count(1)=0 count(2)=0 count(3)=0 count(4)=0 count(5)=0 count(6)=0"
                        + " count(7)=0 count(8)=0 count(9)=0 count(10)=150 part(0)=41 part(1)=5 !undo()=-3 glove(0,1,0)=0 crossing(0,4)=0"
                        + " about(0,2)=0 seen(1,1)=1 note(0,1,1,1)=1 mark(0,1,1,1)=1 from(0)=1 count(0)=7 count(2)=4 from(1)=1"
                        + " count(2)=8",
                "7*glove(0,1,23) street()=7 count(3)=0 glove(0,1,0)=0 count(3)=0 hours(1)=0",
                "wet(0,1) wet(5,4) wet(6,6) undo() 150*type(32) type(32) street()=0 wet(0,0)=0 wet(5,0)=0 status(0)=1 status(1)=1"
                        + " status(2)=1 clear()=150");
    }

    private static void aStreet() {
        String wet = "WET of an hour (0 .. 5): what it was. BAD.";
        edges.numbers(wet, Edges.SOME, "wet", -2, new int[] {0, 5}, new int[] {0, 4});
        edges.says(wet, "wet(5,4)=0 wet(5,0)=4 wet(5,3)=0 wet(0,1)=0 wet(5,3)=3 wet(0,4)=1");
        String glove = "A GLOVE: its number. BAD; FULL: 7.";
        edges.numbers(glove, Edges.SOME, "glove", -2, KINDS, new int[] {1, 9}, SPIKES);
        edges.says(glove,
                "glove(0,1,0)=0 5*glove(0,1,0) glove(0,1,0)=6 !glove(0,1,0)=-4 !glove(5,9,23)=-4 !glove(0,1,24)=-2",
                Edges.FULL + " !glove(0,1,0)=-4 !glove(-1,1,0)=-2");
        String crossing = "A CROSSING: its number. BAD: there is one behind that SPIKE, too; FULL: 3.";
        edges.numbers(crossing, Edges.SOME, "crossing", -2, KINDS, new int[] {0, 22});
        edges.says(crossing,
                "crossing(0,0)=0 crossing(0,1)=1 crossing(0,2)=2 !crossing(0,3)=-4 !crossing(0,22)=-4 !crossing(0,0)=-2 !crossing(0,2)=-2",
                Edges.SOME + " !crossing(0,4)=-2 !crossing(5,9)=-2 crossing(5,22)=2",
                Edges.FULL + " !crossing(0,0)=-4 !crossing(0,20)=-2 !crossing(6,0)=-2");
    }

    private static void theText() {
        String type = "A byte (0 .. 127) comes behind THE TEXT: how many it has. BAD; FULL.";
        edges.numbers(type, Edges.SOME, "type", -2, new int[] {0, 127});
        edges.says(type,
                "type(0)=1 type(127)=2 147*type(59) type(59)=150 !type(59)=-4 !type(0)=-4 !type(127)=-4 !type(128)=-2 count(10)=150",
                // 371 is 115 and 256: no byte.
                "!type(371)=-2 type(115)=1",
                Edges.FULL + " !type(32)=-4 !type(-1)=-2");
        edges.says("THE TEXT is empty: how many it had.",
                "clear()=0 type(115)=1 clear()=1 clear()=0 150*type(59) clear()=150 count(10)=0 type(59)=1",
                "type(115) clear()=1 ?read()=-10");
        edges.says("THE STREET is read: how many ITEMS. -10 less the FAULT: all stays.",
                "?read()=-10 (street;) read()=1 count(10)=7",
                Edges.SOME + " type(59) ?read()=-111 count(0)=3",
                Edges.FULL + " ?read()=-10 count(0)=7");
    }

    private static void hoursGoBy() {
        String told = "n HOURS go by (1 .. 60; together one that may be undone, also if none goes by; at 9999 none goes by):"
                + " how many GLOVES are OVER. BAD.";
        edges.numbers(told, Edges.SOME, "hours", -2, new int[] {1, 60});
        edges.says(told,
                "hours(1)=0 count(2)=1 count(9)=1 hours(60)=0 count(2)=61 count(9)=2 undo()=1 undo()=0",
                "glove(0,1,23) hours(1)=1 glove(0,1,22) hours(1)=2 glove(0,1,0) hours(22)=2 hours(1)=3",
                "166*hours(60) hours(38)=0 shuts(0) hours(60)=0 count(2)=9999 undo()=9998 count(2)=9998",
                Edges.LAST_HOUR + "glove(0,1,22)=0 count(9)=0 hours(1)=0 count(9)=1 of(0,2)=22 hours(60)=0 count(9)=2 count(2)=9999"
                        + " undo()=9999 undo()=9999 !undo()=-3 of(0,2)=22",
                Edges.LAST_HOUR + "9*hours(1) count(9)=8 8*undo() count(2)=9999 !undo()=-3");
    }

    private static void shutsAndUndo() {
        String shuts = "A CROSSING is SHUT, or opened: 1 SHUT then, 0. BAD.";
        edges.numbers(shuts, Edges.SOME, "shuts", -2, CROSSINGS);
        edges.numbers(shuts, Edges.FULL, "shuts", -2, ALL_CROSSINGS);
        edges.says(shuts, "crossing(0,0) shuts(0)=1 shuts(0)=0 shuts(0)=1 count(5)=1 count(9)=3 count(2)=0",
                "crossing(0,0) crossing(0,1) crossing(0,2) shuts(2)=1 shuts(0)=1 shuts(1)=1 count(5)=3 shuts(2)=0 count(5)=2");
        edges.says("UNDO: the HOUR then. NO: none may be.",
                Edges.ONE_IMAGE + " !undo()=-3 count(2)=4",
                "!undo()=-3 hours(7) hours(3) undo()=7 undo()=0 !undo()=-3 !undo()=-3",
                Edges.FULL + " 7*undo() undo()=1 !undo()=-3 count(2)=1",
                Edges.SOME + " undo()=6 undo()=5 about(0,2)=1 undo()=5 about(0,2)=0 undo()=3 !undo()=-3 about(1,2)=1");
    }

    private static void ofAndAbout() {
        String of = "Of a GLOVE: KIND (0), MARK (1), SPIKE (2), whether it WAITS (3; 1, 0), GOES (4). BAD.";
        edges.numbers(of, Edges.SOME, "of", -2, GLOVES, new int[] {0, 4});
        edges.numbers(of, Edges.FULL, "of", -2, ALL_GLOVES, new int[] {0, 4});
        edges.says(of, "crossing(0,4) glove(5,9,4) glove(0,1,23) of(0,0)=5 of(0,1)=9 of(0,2)=4 of(0,3)=1 of(0,4)=4 of(1,0)=0 of(1,1)=1"
                + " of(1,2)=23 of(1,3)=0 of(1,4)=1 !of(0,5)=-2 !of(2,0)=-2");
        String about = "Of a CROSSING: KIND (0), SPIKE (1), SHUT (2; 1, 0), how many WAIT (3), LETS (4). BAD.";
        edges.numbers(about, Edges.SOME, "about", -2, CROSSINGS, new int[] {0, 4});
        edges.numbers(about, Edges.FULL, "about", -2, ALL_CROSSINGS, new int[] {0, 4});
        edges.says(about, "crossing(5,22) crossing(2,0) about(0,0)=5 about(0,1)=22 about(0,2)=0 about(0,3)=0 about(0,4)=0 7*glove(0,1,0)"
                + " about(1,0)=2 about(1,1)=0 about(1,3)=7 about(1,4)=5 shuts(1) about(1,2)=1 about(1,3)=7 about(1,4)=5"
                + " !about(1,5)=-2 !about(2,0)=-2");
    }

    private static void whereAndWhen() {
        edges.numbers("WHERE. BAD.", Edges.SOME, "where", -2, GLOVES, HOURS);
        edges.numbers("WHERE. BAD.", Edges.FULL, "where", -2, ALL_GLOVES, HOURS);
        edges.says("WHERE. BAD.", "glove(0,1,0) where(0,0)=0 where(0,22)=22 where(0,23)=23 where(0,24)=23 where(0,60)=23");
        String when = "WHEN (g = NONE: all are; no GLOVES: 0). NONE. BAD: -10.";
        edges.numbers(when, Edges.SOME, "when", -10, new int[] {-1, 2});
        edges.numbers(when, Edges.FULL, "when", -10, new int[] {-1, 6});
        edges.says(when, "when(-1)=0 !when(0)=-10 glove(0,1,0)=0 when(-1)=23 when(0)=23 crossing(0,0) shuts(0) when(0)=-1 when(-1)=-1");
        String pairs = "PAIRS: how many (g = NONE), with whom one is (NONE: alone). BAD: -10.";
        edges.numbers(pairs, Edges.SOME, "pairs", -10, new int[] {-1, 2});
        edges.numbers(pairs, Edges.FULL, "pairs", -10, new int[] {-1, 6});
        edges.says(pairs, "pairs(-1)=0 glove(0,1,0) pairs(-1)=0 pairs(0)=-1 5*glove(5,9,0) glove(0,2,0) pairs(-1)=3 pairs(0)=6 pairs(6)=0");
    }

    private static void ahead() {
        String heap = "HEAP: how many (0), in how many HOURS (1; nobody ever: 0), the SPIKE (2; NONE). BAD.";
        edges.numbers(heap, Edges.SOME, "heap", -2, new int[] {0, 2});
        edges.says(heap,
                "heap(0)=0 heap(1)=0 heap(2)=-1",
                "crossing(0,22) glove(0,1,0) heap(0)=1 heap(1)=22 heap(2)=22 hours(24) heap(0)=0 heap(1)=0 heap(2)=-1");
        edges.numbers("HOLD, as bits. NONE. BAD.", Edges.SOME, "hold", -2, new int[] {1, 60});
        edges.says("HOLD, as bits. NONE. BAD.",
                "hold(1)=0 glove(0,1,22) hold(1)=-1 crossing(0,0) crossing(0,1) crossing(0,22) hold(1)=4");
        edges.numbers("DROP, as bits. BAD.", Edges.SOME, "drop", -2, KINDS, GLOVES, new int[] {1, 30});
        edges.numbers("DROP, as bits. BAD.", Edges.FULL, "drop", -2, KINDS, ALL_GLOVES, new int[] {1, 30});
        edges.says("DROP, as bits. BAD.", "!drop(0,0,1)=-2 7*glove(0,1,0) drop(0,6,1)=1 drop(1,6,1)=0 drop(0,6,30)=8388607");
    }

    private static void whichItWas() {
        String seen = "SEEN: how many there are. BAD; FULL: 5.";
        edges.numbers(seen, Edges.SOME, "seen", -2, HOURS, SPIKES);
        edges.says(seen,
                "seen(0,0)=1 seen(60,23)=2 2*seen(0,0) seen(0,0)=5 !seen(0,0)=-4 !seen(0,24)=-2 forget(0)=5 seen(0,0)=1",
                Edges.FULL + " !seen(0,0)=-4 !seen(-1,0)=-2");
        edges.says("WHICH, as bits.", "which()=0 7*glove(0,1,0) which()=127 seen(0,1) which()=0");
        edges.says("TELL. NONE.", "tell()=-1 glove(0,1,0) tell()=0 seen(0,1) tell()=-1");
        String note = "A NOTE: how many there are. BAD; FULL: 6.";
        edges.numbers(note, Edges.SOME, "note", -2, GLOVES, new int[] {0, 99}, new int[] {0, 4}, new int[] {0, 20});
        edges.says(note,
                "glove(0,1,0) note(0,0,0,0)=1 4*note(0,0,0,0) note(0,0,0,0)=6 !note(0,0,0,0)=-4 !note(0,0,0,21)=-2 forget(1)=6"
                        + " note(0,0,0,0)=1",
                Edges.FULL + " !note(0,0,0,0)=-4 !note(7,0,0,0)=-2");
        String mark = "A MARK: how many there are. BAD; FULL: 6.";
        edges.numbers(mark, Edges.SOME, "mark", -2, CROSSINGS, new int[] {0, 99}, new int[] {1, 7}, new int[] {0, 20});
        edges.says(mark,
                "crossing(0,0) mark(0,0,1,0)=1 4*mark(0,0,1,0) mark(0,0,1,0)=6 !mark(0,0,1,0)=-4 !mark(0,0,0,0)=-2 forget(2)=6"
                        + " mark(0,0,1,0)=1",
                Edges.FULL + " !mark(0,0,1,0)=-4 !mark(3,0,1,0)=-2");
        String forget = "No SEEN ones (0), NOTES (1), MARKS (2): how many there were. BAD.";
        edges.numbers(forget, Edges.SOME, "forget", -2, new int[] {0, 2});
        edges.says(forget,
                "forget(0)=0 forget(1)=0 forget(2)=0 !forget(3)=-2 !forget(-1)=-2",
                Edges.FULL + " forget(0)=5 count(6)=0 count(7)=6 count(8)=6 forget(1)=6 count(7)=0 count(8)=6 forget(2)=6 count(8)=0"
                        + " forget(0)=0 forget(1)=0 forget(2)=0 count(9)=8");
    }

    private static void guesses() {
        edges.numbers("IS, as bits. BAD.", Edges.SOME, "is", -2, GLOVES);
        edges.numbers("IS, as bits. BAD.", Edges.FULL, "is", -2, ALL_GLOVES);
        edges.says("IS, as bits. BAD.", "glove(0,1,0) is(0)=63 note(0,0,0,1) is(0)=5 note(0,0,0,2) is(0)=0");
        edges.numbers("LOOK. NONE. BAD.", Edges.SOME, "look", -2, GLOVES);
        edges.numbers("LOOK. NONE. BAD.", Edges.FULL, "look", -2, ALL_GLOVES);
        edges.says("LOOK. NONE. BAD.", "glove(0,1,0) look(0)=3 note(0,0,0,3) is(0)=0 look(0)=-1");
        edges.numbers("WHAT, as bits. BAD.", Edges.SOME, "kinds", -2, CROSSINGS);
        edges.numbers("WHAT, as bits. BAD.", Edges.FULL, "kinds", -2, ALL_CROSSINGS);
        edges.says("WHAT, as bits. BAD.", "crossing(0,0) kinds(0)=63 mark(0,0,1,1) kinds(0)=10 mark(0,0,1,2) kinds(0)=0");
        edges.numbers("ASK. NONE. BAD.", Edges.SOME, "ask", -2, CROSSINGS);
        edges.numbers("ASK. NONE. BAD.", Edges.FULL, "ask", -2, ALL_CROSSINGS);
        edges.says("ASK. NONE. BAD.", "crossing(0,0) ask(0)=2 mark(0,0,1,3) kinds(0)=0 ask(0)=-1");
    }

    private static void ladyRainWinters() {
        String lady = "LADY: how many (k = NONE), the k-th. -5: not so many. BAD: -10: k below -1, too.";
        edges.says(lady,
                "glove(0,1,0) lady(0,-1)=0 lady(0,0)=-5 lady(0,99)=-5 lady(0,100)=-5 lady(0,2147483647)=-5 status(0)=0 !lady(0,-2)=-10"
                        + " !lady(0,-2147483648)=-10 !lady(1,0)=-10 !lady(-1,-1)=-10 !lady(1,-2)=-10",
                "glove(0,1,9) lady(0,-1)=3 lady(0,0)=90 lady(0,1)=91 lady(0,2)=92 lady(0,3)=-5",
                Edges.SOME + " lady(2,-1)=0 !lady(3,-1)=-10 !lady(-1,-1)=-10 !lady(2,-2)=-10",
                Edges.FULL + " lady(6,-1)=0 lady(6,0)=-5 !lady(7,-1)=-10 !lady(7,0)=-10 !lady(6,-2)=-10");
        edges.numbers("RAIN is THE FRACTION: 1. BAD.", Edges.SOME, "rain", -2, new int[] {0, 10});
        edges.says("RAIN is THE FRACTION: 1. BAD.",
                "glove(1,1,0) rain(0)=1 part(0)=2 part(1)=1 !rain(11)=-2 !rain(-1)=-2 part(0)=2 rain(10)=1 part(0)=1",
                "glove(1,1,0) rain(0)=1 street()=1 part(0)=2 rain(0)=1 part(0)=0 part(1)=1");
        edges.numbers("WINTERS. BAD.", Edges.SOME, "winters", -2, new int[] {0, 999999}, HOURS);
        edges.says("WINTERS. BAD.", "7*glove(0,1,23) winters(0,0)=7 winters(999999,60)=7");
    }

    private static void whatThereIs() {
        String part = "THE FRACTION: above (0), below (1). BAD.";
        edges.numbers(part, Edges.SOME, "part", -2, new int[] {0, 1});
        edges.says(part, "part(0)=0 part(1)=1 !part(2)=-2 !part(-1)=-2");
        String status = "STATUS: BAD (0), NO (1), FULL (2). -1: another what (counts as BAD).";
        edges.numbers(status, Edges.SOME, "status", -1, new int[] {0, 2});
        edges.says(status, "status(3)=-1 status(0)=1 status(-1)=-1 status(0)=2 status(1)=0 status(2)=0");
        String count = "How many: 0 GLOVES, 1 CROSSINGS, 2 the HOUR, 3 OVER, 4 who WAIT, 5 SHUT, 6 SEEN, 7 NOTES, 8 MARKS,"
                + " 9 that may be undone, 10 bytes of THE TEXT. BAD.";
        edges.numbers(count, Edges.SOME, "count", -2, new int[] {0, 10});
        edges.says(count, Edges.FULL + " count(0)=7 count(1)=3 count(2)=8 count(3)=3 count(4)=3 count(5)=1 count(6)=5 count(7)=6 count(8)=6"
                + " count(9)=8 count(10)=150",
                "crossing(0,0) crossing(0,22) 3*glove(0,1,0) 2*glove(0,1,22) glove(0,1,23) glove(0,1,1) count(4)=5 count(3)=1 shuts(0)"
                        + " shuts(1) count(4)=5 count(5)=2");
    }

    private static void imageAndFrom() {
        edges.numbers("An IMAGE is kept: 1. BAD.", Edges.SOME, "image", -2, new int[] {0, 1});
        edges.says("An IMAGE is kept: 1. BAD.", "image(0)=1 image(0)=1 image(1)=1 !image(2)=-2 !image(-1)=-2 count(9)=0");
        String from = "It goes on from an IMAGE: 1. BAD; NO: none was kept.";
        edges.numbers(from, Edges.SOME, "from", -2, new int[] {0, 1});
        edges.says(from,
                "!from(0)=-3 !from(1)=-3 !from(2)=-2 !from(-1)=-2 image(1)=1 !from(0)=-3 from(1)=1",
                "glove(0,1,5) image(0)=1 !from(1)=-3 street() from(0)=1 of(0,2)=5",
                Edges.ONE_IMAGE + " !from(0)=-3 !from(2)=-2 from(1)=1 !from(0)=-3 undo()=3",
                "image(0)=1 !from(1)=-3 from(0)=1 !from(2)=-2 street()=0 from(0)=1",
                Edges.FULL + " street() from(0)=1 count(0)=7 count(1)=3 count(2)=4 count(6)=5 count(7)=6 count(8)=6 count(9)=5 of(6,2)=23"
                        + " about(1,2)=1 6*undo() count(2)=0");
    }

    private static void asManyCallsAsThereMayBe() {
        edges.says("An object is used for at most 512 calls after it has been made",
                "511*wet(6,0)=-2 status(0)=511",
                "511*undo()=-3 status(1)=511",
                "150*type(0) 361*type(0)=-4 status(2)=361",
                "glove(0,1,0) 509*hours(60) hours(60)=1 count(2)=9999");
    }

    /** 31 times what is there and the next value, as the numbers are, cut to the 64 bits of a long. */
    private static String folded(long... values) {
        BigInteger h = BigInteger.valueOf(1619);
        for (long v : values) {
            h = h.multiply(BigInteger.valueOf(31)).add(BigInteger.valueOf(v));
        }
        return " digest()=" + h.longValue();
    }

    private static final String DIGEST = "h = 1619; then h = 31 h + v for each v: count(0) to count(10); six WETS; of GLOVES KIND, MARK,"
            + " SPIKE; of CROSSINGS KIND, SPIKE, SHUT (1, 0); of SEEN m, s; of NOTES g, h, w, x; of MARKS k, h, n, x; THE FRACTION.";

    private static void digestOfNothing() {
        edges.says(DIGEST,
                folded(0, 0, 0, 0, 0, 0, 0, 0, 0, 0, 0, 0, 0, 0, 0, 0, 0, 0, 1).trim(),
                "wet(0,1) wet(1,2) wet(2,3) wet(3,4) wet(4,3) wet(5,2)"
                        + folded(0, 0, 0, 0, 0, 0, 0, 0, 0, 0, 0, 1, 2, 3, 4, 3, 2, 0, 1));
    }

    private static void digestOfSome() {
        edges.says(DIGEST,
                "glove(5,9,23) hours(60) seen(60,23)" + folded(1, 0, 60, 1, 0, 0, 1, 0, 0, 1, 0, 0, 0, 0, 0, 0, 0, 5, 9, 23, 60, 23, 0, 1),
                "crossing(5,22) mark(0,99,7,20) shuts(0) type(0)"
                        + folded(0, 1, 0, 0, 0, 1, 0, 0, 1, 1, 1, 0, 0, 0, 0, 0, 0, 5, 22, 1, 0, 99, 7, 20, 0, 1),
                "glove(1,1,0) note(0,99,4,20) rain(3)"
                        + folded(1, 0, 0, 0, 0, 0, 0, 1, 0, 0, 0, 0, 0, 0, 0, 0, 0, 1, 1, 0, 0, 99, 4, 20, 17, 10),
                Edges.LAST_HOUR + folded(0, 0, 9999, 0, 0, 0, 0, 0, 0, 8, 0, 0, 0, 0, 0, 0, 0, 0, 1).trim());
    }

    private static void digestOfAll() {
        edges.says(DIGEST, "crossing(2,4) crossing(1,9) crossing(0,20) 3*glove(0,1,4) 3*glove(5,9,9) glove(1,2,22) shuts(0) shuts(2)"
                + " 5*seen(60,22) 6*note(6,99,4,20) 6*mark(2,99,7,20) rain(5) 150*type(127)"
                + folded(7, 3, 0, 0, 6, 2, 5, 6, 6, 2, 150, 0, 0, 0, 0, 0, 0,
                        0, 1, 4, 0, 1, 4, 0, 1, 4, 5, 9, 9, 5, 9, 9, 5, 9, 9, 1, 2, 22,
                        2, 4, 1, 1, 9, 0, 0, 20, 1,
                        60, 22, 60, 22, 60, 22, 60, 22, 60, 22,
                        6, 99, 4, 20, 6, 99, 4, 20, 6, 99, 4, 20, 6, 99, 4, 20, 6, 99, 4, 20, 6, 99, 4, 20,
                        2, 99, 7, 20, 2, 99, 7, 20, 2, 99, 7, 20, 2, 99, 7, 20, 2, 99, 7, 20, 2, 99, 7, 20,
                        3, 2));
    }
}
