/** Promises 9 to 13: hours, shuts, undo, of, about; with them the kinds of gloves and of crossings. */
public final class HoursTest {
    private static final Due due = new Due();

    // h, w, then how many spikes wool, leather, mitten, kid, odd, satin go.
    private static final int[][] GOES = {
        {0, 0, 1, 2, 1, 4, 4, 4}, {0, 1, 1, 1, 1, 2, 4, 1}, {0, 2, 1, 1, 1, 2, 4, 0},
        {0, 3, 1, 1, 0, 2, 4, 0}, {0, 4, 1, 1, 0, 2, 4, 0}, {1, 0, 1, 2, 1, 2, 1, 2},
        {1, 1, 1, 1, 1, 1, 1, 0}, {1, 4, 1, 1, 0, 1, 1, 0}, {2, 0, 1, 2, 1, 4, 1, 4},
        {2, 1, 1, 1, 1, 2, 1, 1}, {5, 0, 1, 2, 1, 2, 4, 2}, {5, 3, 1, 1, 0, 1, 4, 0},
        {10, 2, 1, 1, 1, 2, 4, 0}, {14, 0, 1, 2, 1, 4, 1, 4}, {15, 2, 1, 1, 1, 1, 4, 0}};

    // h, n, then how many plain, busy, wide, policed, night, locked ones let over.
    private static final int[][] LETS = {
        {0, 1, 2, 1, 2, 1, 2, 0}, {0, 4, 2, 1, 4, 2, 2, 0}, {1, 1, 0, 0, 0, 0, 0, 0}, {1, 3, 0, 0, 1, 0, 0, 1},
        {1, 4, 0, 0, 2, 1, 0, 2}, {2, 5, 2, 1, 4, 2, 2, 4}, {3, 7, 0, 0, 3, 1, 0, 0}, {5, 6, 0, 0, 3, 1, 0, 3},
        {6, 1, 2, 1, 2, 1, 1, 0}, {6, 3, 2, 1, 3, 1, 3, 0}, {7, 7, 0, 0, 3, 1, 7, 3}, {8, 3, 2, 1, 3, 1, 2, 3},
        {14, 1, 2, 1, 2, 1, 1, 2}, {15, 5, 0, 0, 2, 1, 5, 0}, {16, 7, 2, 1, 5, 2, 2, 5}};

    public static void main(String[] args) {
        kindsOfGloves();
        kindsOfCrossings();
        hoursGoBy();
        theLastHour();
        shuts();
        undo();
        of();
        about();
        due.end();
    }

    private static void kindsOfGloves() {
        for (int[] row : GOES) {
            GloveRail x = new GloveRail();
            x.wet(row[0] % 6, row[1]);
            x.crossing(0, 0);
            x.shuts(0);
            for (int kind = 0; kind < 6; kind++) {
                x.glove(kind, 1, 0);
            }
            if (row[0] > 0) {
                x.hours(row[0]);
            }
            for (int kind = 0; kind < 6; kind++) {
                due.is("goes, waiting, kind " + kind + ", h " + row[0] + ", w " + row[1], x.of(kind, 4), row[2 + kind]);
            }
            for (int kind = 0; kind < 6; kind++) {
                x.street();
                x.wet(row[0] % 6, row[1]);
                for (int h = 0; h < row[0]; h++) {
                    x.hours(1);
                }
                x.glove(kind, 1, 3);
                x.hours(1);
                due.is("went, kind " + kind + ", h " + row[0] + ", w " + row[1], x.of(0, 2), 3 + row[2 + kind]);
            }
        }
    }

    private static void kindsOfCrossings() {
        for (int[] row : LETS) {
            for (int kind = 0; kind < 6; kind++) {
                GloveRail x = new GloveRail();
                if (row[0] > 0) {
                    x.hours(row[0]);
                }
                x.crossing(kind, 4);
                for (int g = 0; g < row[1]; g++) {
                    x.glove(1, 1, 4);
                }
                String call = "kind " + kind + ", h " + row[0] + ", n " + row[1];
                due.is("lets, " + call, x.about(0, 4), row[2 + kind]);
                x.shuts(0);
                due.is("lets, shut, " + call, x.about(0, 4), row[2 + kind]);
                x.hours(1);
                due.is("shut, over none, " + call, x.about(0, 3), row[1]);
                x.undo();
                x.undo();
                x.hours(1);
                int over = Math.min(row[1], row[2 + kind]);
                for (int g = 0; g < row[1]; g++) {
                    due.is("over by numbers, glove " + g + ", " + call, x.of(g, 2), g < over ? 5 : 4);
                }
            }
        }
    }

    private static void hoursGoBy() {
        GloveRail x = Due.reading("street;glove 0 1 0;glove 3 1 2;glove 3 1 22;glove 1 1 5;crossing 0 5;crossing 1 6;");
        due.is("hours(1)", x.hours(1), 1);
        due.is("the hour", x.count(2), 1);
        due.is("wool goes 1", x.of(0, 2), 1);
        due.is("a kid stops at the crossing", x.of(1, 2), 5);
        due.is("a kid stops at 23", x.of(2, 2), 23);
        due.is("one that is let over goes no farther", x.of(3, 2), 6);
        due.is("hours(2)", x.hours(2), 1);
        // Hour 1: nothing is let over. Hour 2: the kid goes to 6, where the leather goes on to 7.
        due.is("wool goes on", x.of(0, 2), 3);
        due.is("the kid is let over", x.of(1, 2), 6);
        due.is("the leather is let over", x.of(3, 2), 7);
        GloveRail y = Due.reading("street;glove 3 1 2;crossing 0 4;shut 0;");
        y.hours(60);
        due.is("nor beyond one that is shut", y.of(0, 2), 4);
        due.refused("hours(0)", y, 0, () -> y.hours(0), -2);
        due.refused("hours(-1)", y, 0, () -> y.hours(-1), -2);
        due.refused("hours(61)", y, 0, () -> y.hours(61), -2);
        due.is("one that may be undone", y.count(9), 1);
        GloveRail z = Due.reading("street;glove 0 1 23;glove 5 1 23;glove 4 1 19;");
        due.is("hours(1), over at once", z.hours(1), 3);
    }

    private static void theLastHour() {
        GloveRail x = new GloveRail();
        x.glove(0, 1, 0);
        x.crossing(0, 0);
        x.shuts(0);
        for (int i = 0; i < 166; i++) {
            x.hours(60);
        }
        due.is("hour 9960", x.count(2), 9960);
        x.hours(38);
        due.is("hour 9998", x.count(2), 9998);
        x.shuts(0);
        x.hours(60);
        due.is("no farther than 9999", x.count(2), 9999);
        due.is("one hour went by", x.of(0, 2), 1);
        x.hours(60);
        due.is("none goes by at 9999", x.of(0, 2), 1);
        due.is("undo() of none", x.undo(), 9999);
        due.is("undo() of one", x.undo(), 9998);
        x.hours(1);
        due.is("where(0, 22) goes beyond 9999", x.where(0, 22), 23);
        due.is("when(0) goes beyond 9999", x.when(0), 22);
        due.is("winters(0, 60) goes beyond 9999", x.winters(0, 60), 1);
    }

    private static void shuts() {
        GloveRail x = Due.reading("street;crossing 0 5;crossing 0 7;");
        due.is("shuts(1)", x.shuts(1), 1);
        due.is("0 is open", x.about(0, 2), 0);
        due.is("1 is shut", x.about(1, 2), 1);
        due.is("shuts(0)", x.shuts(0), 1);
        due.is("shuts(1) again", x.shuts(1), 0);
        due.is("count(5)", x.count(5), 1);
        due.is("three may be undone", x.count(9), 3);
        due.refused("shuts(2)", x, 0, () -> x.shuts(2), -2);
        due.refused("shuts(-1)", x, 0, () -> x.shuts(-1), -2);
        due.is("the hour stays", x.count(2), 0);
    }

    private static void undo() {
        GloveRail x = Due.reading("street;glove 0 1 0;glove 1 2 3;crossing 0 5;crossing 1 7;hours 2;");
        due.refused("undo() of none", x, 1, x::undo, -3);
        long before = x.digest();
        x.hours(3);
        long later = x.digest();
        x.shuts(1);
        x.hours(2);
        due.is("undo() of hours", x.undo(), 5);
        due.is("undo() of shutting", x.undo(), 5);
        due.is("as ahead of it", x.digest(), later);
        due.is("undo() of the first hours", x.undo(), 2);
        due.is("as at first", x.digest(), before);
        due.refused("undo() behind all", x, 1, x::undo, -3);
        x.shuts(1);
        x.hours(3);
        x.shuts(0);
        x.undo();
        due.is("undo() of shutting another", x.about(1, 2), 1);
        x.undo();
        due.is("undo() of hours leaves it shut", x.about(1, 2), 1);
        x.undo();
        due.is("undo() of shutting it", x.about(1, 2), 0);
        for (int i = 1; i <= 9; i++) {
            x.shuts(0);
            x.hours(i);
            due.is("8 at most", x.count(9), Math.min(8, 2 * i));
        }
        x.shuts(1);
        int[] hours = {47, 38, 38, 30, 30, 23, 23, 17};
        for (int hour : hours) {
            due.is("undo() of 8", x.undo(), hour);
        }
        due.is("undo() of a 9th", x.undo(), -3);
        x.shuts(0);
        x.glove(9, 9, 9);
        x.wet(9, 9);
        x.crossing(9, 9);
        x.seen(1, 1);
        x.forget(0);
        due.is("refused and other calls leave what may be undone", x.count(9), 1);
    }

    private static void of() {
        GloveRail x = Due.reading("street;glove 5 9 4;glove 1 3 23;glove 4 2 3;crossing 0 4;");
        int[][] due5 = {{5, 9, 4, 1, 4}, {1, 3, 23, 0, 2}, {4, 2, 3, 0, 4}};
        for (int g = 0; g < 3; g++) {
            for (int what = 0; what < 5; what++) {
                due.is("of(" + g + ", " + what + ")", x.of(g, what), due5[g][what]);
            }
        }
        x.shuts(0);
        due.is("who is at a shut one waits", x.of(0, 3), 1);
        due.refused("of(3, 0)", x, 0, () -> x.of(3, 0), -2);
        due.refused("of(-1, 0)", x, 0, () -> x.of(-1, 0), -2);
        due.refused("of(0, 5)", x, 0, () -> x.of(0, 5), -2);
        due.refused("of(0, -1)", x, 0, () -> x.of(0, -1), -2);
    }

    private static void about() {
        GloveRail x = Due.reading("street;glove 0 1 9;glove 0 1 9;glove 0 1 2;crossing 2 9;crossing 4 0;crossing 5 2;shut 1;");
        int[][] due5 = {{2, 9, 0, 2, 3}, {4, 0, 1, 0, 0}, {5, 2, 0, 1, 0}};
        for (int k = 0; k < 3; k++) {
            for (int what = 0; what < 5; what++) {
                due.is("about(" + k + ", " + what + ")", x.about(k, what), due5[k][what]);
            }
        }
        due.refused("about(3, 0)", x, 0, () -> x.about(3, 0), -2);
        due.refused("about(-1, 0)", x, 0, () -> x.about(-1, 0), -2);
        due.refused("about(0, 5)", x, 0, () -> x.about(0, 5), -2);
        due.refused("about(0, -1)", x, 0, () -> x.about(0, -1), -2);
    }
}
