/** Promises 14 to 19: where, when, pairs, heap, hold, drop. */
public final class AheadTest {
    private static final Due due = new Due();

    // A mitten goes in 2 of 6 hours here.
    private static final String SLOW = "street;wet 4 4 4 4;";

    public static void main(String[] args) {
        where();
        when();
        pairs();
        pairsAnew();
        heap();
        hold();
        drop();
        theyChangeNothing();
        due.end();
    }

    private static void where() {
        GloveRail x = Due.reading("street;glove 0 1 0;glove 3 1 1;crossing 0 3;");
        int[] wool = {0, 1, 2, 3, 3, 4, 5, 6};
        int[] kid = {1, 3, 3, 4, 6, 10, 12, 16};
        for (int m = 0; m < wool.length; m++) {
            due.is("where(0, " + m + ")", x.where(0, m), wool[m]);
            due.is("where(1, " + m + ")", x.where(1, m), kid[m]);
        }
        due.is("where(0, 23)", x.where(0, 23), 22);
        due.is("where(0, 24)", x.where(0, 24), 23);
        due.is("where(0, 60)", x.where(0, 60), 23);
        due.refused("where(2, 0)", x, 0, () -> x.where(2, 0), -2);
        due.refused("where(-1, 0)", x, 0, () -> x.where(-1, 0), -2);
        due.refused("where(0, -1)", x, 0, () -> x.where(0, -1), -2);
        due.refused("where(0, 61)", x, 0, () -> x.where(0, 61), -2);
    }

    private static void when() {
        GloveRail none = new GloveRail();
        due.is("when(-1) of none", none.when(-1), 0);
        due.refused("when(0) of none", none, 0, () -> none.when(0), -10);
        GloveRail x = Due.reading("street;glove 0 1 0;glove 0 1 23;glove 0 1 22;");
        due.is("when(0)", x.when(0), 23);
        due.is("when(1), over now", x.when(1), 0);
        due.is("when(2)", x.when(2), 1);
        due.is("when(-1)", x.when(-1), 23);
        due.refused("when(3)", x, 0, () -> x.when(3), -10);
        due.refused("when(-2)", x, 0, () -> x.when(-2), -10);
        x.crossing(0, 3);
        due.is("when(0) by a plain crossing", x.when(0), 24);
        x.shuts(0);
        due.is("when(0) by a shut one", x.when(0), -1);
        due.is("when(-1) by a shut one", x.when(-1), -1);
        due.is("when(2) beyond it", x.when(2), 1);
        GloveRail slow = Due.reading(SLOW + "glove 2 1 3;");
        due.is("when(0) in 60", slow.when(0), 60);
        due.is("when(-1) in 60", slow.when(-1), 60);
        GloveRail slower = Due.reading(SLOW + "glove 2 1 2;glove 0 1 9;");
        due.is("when(0) in more than 60", slower.when(0), -1);
        due.is("when(-1) in more than 60", slower.when(-1), -1);
    }

    /** Gloves by kind and mark, as kind 10 and mark, and with whom each is. */
    private static void paired(int[] kindsAndMarks, int many, int[] with) {
        GloveRail x = new GloveRail();
        for (int g = 0; g < kindsAndMarks.length; g++) {
            x.glove(kindsAndMarks[g] / 10, kindsAndMarks[g] % 10, g);
        }
        String call = java.util.Arrays.toString(kindsAndMarks) + ": pairs(";
        due.is(call + "-1)", x.pairs(-1), many);
        for (int g = 0; g < with.length; g++) {
            due.is(call + g + ")", x.pairs(g), with[g]);
        }
        due.refused(call + "one more)", x, 0, () -> x.pairs(with.length), -10);
        due.refused(call + "-2)", x, 0, () -> x.pairs(-2), -10);
    }

    private static void pairs() {
        paired(new int[] {}, 0, new int[] {});
        paired(new int[] {1}, 0, new int[] {-1});
        paired(new int[] {1, 2}, 1, new int[] {1, 0});
        paired(new int[] {1, 3}, 0, new int[] {-1, -1});
        paired(new int[] {1, 11}, 0, new int[] {-1, -1});
        paired(new int[] {51, 51, 51}, 1, new int[] {-1, 2, 1});
        paired(new int[] {2, 1, 3}, 1, new int[] {1, 0, -1});
        paired(new int[] {1, 2, 3, 4}, 2, new int[] {1, 0, 3, 2});
        paired(new int[] {2, 3, 1, 4}, 2, new int[] {2, 3, 0, 1});
        paired(new int[] {9, 19, 8, 18, 7}, 2, new int[] {-1, 3, 4, 1, 2});
        paired(new int[] {5, 5, 5, 5, 5, 5, 5}, 3, new int[] {-1, 2, 1, 4, 3, 6, 5});
        // 0 alone; were 1 (5) with 2 (6), 3 (6) would be alone too, so that 1 is with 4 (4).
        paired(new int[] {5, 5, 6, 6, 4, 4, 3}, 3, new int[] {-1, 4, 3, 2, 1, 6, 5});
    }

    private static void pairsAnew() {
        GloveRail x = new GloveRail();
        for (int g = 0; g < 7; g++) {
            x.glove(0, 1, 0);
        }
        due.is("pairs(-1) of seven", x.pairs(-1), 3);
        x.street();
        for (int g = 0; g < 5; g++) {
            x.glove(g, 1, 0);
        }
        due.is("pairs(-1) of unlike ones", x.pairs(-1), 0);
        x.glove(4, 2, 0);
        due.is("pairs(-1) of two alike", x.pairs(-1), 1);
        due.is("pairs(4) of two alike", x.pairs(4), 5);
        due.is("pairs(0) of two alike", x.pairs(0), -1);
    }

    private static void heaped(String text, int many, int hours, int spike) {
        GloveRail x = Due.reading(text);
        due.is(text + " heap(0)", x.heap(0), many);
        due.is(text + " heap(1)", x.heap(1), hours);
        due.is(text + " heap(2)", x.heap(2), spike);
        due.refused("heap(3)", x, 0, () -> x.heap(3), -2);
        due.refused("heap(-1)", x, 0, () -> x.heap(-1), -2);
    }

    private static void heap() {
        heaped("street;", 0, 0, -1);
        heaped("street;glove 0 1 5;glove 0 1 5;crossing 0 4;", 0, 0, -1);
        heaped("street;glove 0 1 4;glove 0 1 4;crossing 0 4;", 2, 0, 4);
        heaped("street;glove 0 1 9;glove 0 1 2;crossing 0 9;crossing 0 2;", 1, 0, 2);
        heaped("street;glove 0 1 9;glove 0 1 2;crossing 0 2;crossing 0 9;", 1, 0, 2);
        heaped("street;glove 0 1 0;glove 0 1 1;crossing 0 3;shut 0;", 2, 3, 3);
        heaped("street;glove 0 1 0;glove 0 1 1;glove 0 1 8;crossing 0 3;crossing 1 8;crossing 1 2;shut 0;", 2, 2, 2);
        heaped("street;glove 0 1 9;glove 0 1 0;crossing 0 2;crossing 0 9;shut 1;", 2, 9, 9);
        heaped("street;glove 0 1 9;glove 0 1 0;crossing 0 2;crossing 0 9;shut 1;shut 0;", 1, 0, 9);
        heaped(SLOW + "glove 2 1 0;crossing 0 10;", 1, 30, 10);
        heaped(SLOW + "glove 2 1 0;crossing 0 11;", 0, 0, -1);
        GloveRail x = Due.reading("street;glove 0 1 0;crossing 0 3;");
        due.is("heap(1), then another street", x.heap(1), 3);
        x.hours(9);
        due.is("heap(0), nobody any more", x.heap(0), 0);
        due.is("heap(1), nobody any more", x.heap(1), 0);
        due.is("heap(2), nobody any more", x.heap(2), -1);
    }

    private static void hold() {
        GloveRail none = new GloveRail();
        due.is("hold(60) of none", none.hold(60), 0);
        due.refused("hold(0)", none, 0, () -> none.hold(0), -2);
        due.refused("hold(61)", none, 0, () -> none.hold(61), -2);
        GloveRail x = Due.reading("street;glove 0 1 0;glove 0 1 7;glove 0 1 23;crossing 0 10;crossing 0 5;crossing 0 15;");
        due.is("hold(60)", x.hold(60), 1);
        due.is("hold(16)", x.hold(16), 0);
        GloveRail far = Due.reading("street;glove 0 1 0;glove 0 1 12;crossing 0 10;crossing 0 5;crossing 0 15;");
        due.is("hold(60), only the last one", far.hold(60), 4);
        GloveRail two = Due.reading("street;glove 0 1 0;glove 0 1 7;crossing 0 5;crossing 0 9;shut 0;shut 1;");
        due.is("hold(60), both shut now", two.hold(60), 2);
        due.is("hold(10), both opened", two.hold(10), 0);
        GloveRail beyond = Due.reading("street;glove 0 1 20;crossing 0 10;");
        due.is("hold(2)", beyond.hold(2), 0);
        due.is("hold(3), one beyond", beyond.hold(3), -1);
        beyond.hours(3);
        due.is("hold(60), over now", beyond.hold(60), 0);
        GloveRail last = Due.reading("street;glove 0 1 22;crossing 0 22;glove 0 1 21;");
        due.is("hold(1), open and even", last.hold(1), 1);
        last.hours(1);
        due.is("hold(1), over or an odd hour", last.hold(1), 0);
    }

    private static void drop() {
        GloveRail x = Due.reading("street;glove 0 1 5;glove 0 1 22;");
        due.is("drop(0, 0, 1)", x.drop(0, 0, 1), 1 << 5);
        due.is("drop(1, 0, 3)", x.drop(1, 0, 3), 1 << 2);
        due.is("drop(4, 0, 1)", x.drop(4, 0, 1), 1 << 2);
        due.is("drop(0, 1, 2), over both", x.drop(0, 1, 2), 1 << 21 | 1 << 22);
        due.is("drop(0, 0, 30)", x.drop(0, 0, 30), (1 << 23) - 1);
        GloveRail shut = Due.reading("street;glove 0 1 9;crossing 0 9;shut 0;");
        due.is("drop(0, 0, 3) at a shut one", shut.drop(0, 0, 3), 0xF << 6);
        GloveRail wide = Due.reading("street;hours 1;glove 0 1 4;crossing 2 4;");
        due.is("one more lets the other over", wide.drop(0, 0, 1), 1 << 3);
        GloveRail eight = Due.reading("street;hours 1;glove 0 1 4;glove 0 1 4;glove 0 1 4;glove 0 1 4;glove 0 1 4;"
                + "glove 0 1 4;glove 0 1 4;crossing 2 4;");
        due.is("an 8th waits with them: 3", eight.drop(0, 3, 1), 1 << 3);
        due.is("an 8th waits with them: 4", eight.drop(0, 4, 1), 1 << 3 | 1 << 4);
        due.refused("drop(6, 0, 1)", x, 0, () -> x.drop(6, 0, 1), -2);
        due.refused("drop(-1, 0, 1)", x, 0, () -> x.drop(-1, 0, 1), -2);
        due.refused("drop(0, 2, 1)", x, 0, () -> x.drop(0, 2, 1), -2);
        due.refused("drop(0, -1, 1)", x, 0, () -> x.drop(0, -1, 1), -2);
        due.refused("drop(0, 0, 0)", x, 0, () -> x.drop(0, 0, 0), -2);
        due.refused("drop(0, 0, 31)", x, 0, () -> x.drop(0, 0, 31), -2);
    }

    private static void theyChangeNothing() {
        GloveRail x = Due.reading("street;wet 1 2;glove 0 1 4;glove 3 2 2;crossing 2 4;crossing 1 9;shut 1;hours 3;");
        x.shuts(0);
        long before = x.digest();
        x.where(0, 9);
        x.when(-1);
        x.when(0);
        x.pairs(-1);
        x.heap(0);
        x.hold(9);
        x.drop(1, 1, 9);
        due.is("asked, then digest()", x.digest(), before);
        due.is("asked, then status(0)", x.status(0), 0);
    }
}
