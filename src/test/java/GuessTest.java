/** Promises 20 to 32: seen, which, tell, note, mark, forget, is, look, kinds, ask, lady, rain, winters. */
public final class GuessTest {
    private static final Due due = new Due();

    public static void main(String[] args) {
        seenAndWhich();
        tell();
        note();
        mark();
        forget();
        isAndLook();
        kindsAndAsk();
        lady();
        rain();
        winters();
        theyChangeNothing();
        due.end();
    }

    private static void seenAndWhich() {
        due.is("which() of none", new GloveRail().which(), 0);
        GloveRail x = Due.reading("street;glove 0 1 0;glove 1 1 0;glove 3 1 2;");
        due.is("which(), none seen", x.which(), 7);
        due.is("seen(0, 0)", x.seen(0, 0), 1);
        due.is("which() at 0 now", x.which(), 3);
        due.is("seen(2, 2)", x.seen(2, 2), 2);
        due.is("which() by both", x.which(), 1);
        x.hours(1);
        due.is("which() from now on", x.which(), 0);
        x.undo();
        due.is("which() as it was", x.which(), 1);
        due.is("seen(60, 23)", x.seen(60, 23), 3);
        due.is("which() by three", x.which(), 1);
        due.refused("seen(-1, 0)", x, 0, () -> x.seen(-1, 0), -2);
        due.refused("seen(61, 0)", x, 0, () -> x.seen(61, 0), -2);
        due.refused("seen(0, -1)", x, 0, () -> x.seen(0, -1), -2);
        due.refused("seen(0, 24)", x, 0, () -> x.seen(0, 24), -2);
        due.is("seen(2, 2) again", x.seen(2, 2), 4);
        due.is("seen(1, 1)", x.seen(1, 1), 5);
        due.refused("a 6th seen", x, 2, () -> x.seen(1, 1), -4);
        due.refused("a bad 6th seen", x, 0, () -> x.seen(61, 0), -2);
        due.is("which() by five", x.which(), 1);
        GloveRail slow = Due.reading("street;wet 4 4 4 4;glove 2 1 3;glove 2 1 2;");
        slow.seen(60, 23);
        due.is("which() at 23 behind 60", slow.which(), 1);
    }

    private static void tells(String text, int want) {
        due.is("tell() of " + text, Due.reading(text).tell(), want);
    }

    private static void tell() {
        tells("street;", -1);
        tells("street;glove 0 1 9;", 0);
        tells("street;glove 0 1 9;glove 0 1 9;", 0);
        tells("street;glove 0 1 0;glove 1 1 0;", 1);
        tells("street;glove 0 1 0;glove 0 1 1;", 0);
        tells("street;glove 0 1 0;glove 2 1 0;glove 1 1 0;", 1);
        // Together to a busy crossing, where the first goes over alone: seen behind 20 hours, or behind 21.
        tells("street;hours 1;glove 0 1 0;glove 0 1 0;crossing 1 18;", 20);
        tells("street;glove 0 1 0;glove 0 1 0;crossing 1 20;", 0);
        GloveRail x = Due.reading("street;glove 0 1 0;glove 0 1 0;glove 1 1 0;glove 1 1 9;");
        due.is("tell() of four", x.tell(), 1);
        x.seen(2, 2);
        due.is("tell() of the two wools", x.tell(), 0);
        x.seen(2, 3);
        due.is("tell() of none left", x.tell(), -1);
        x.forget(0);
        x.seen(0, 0);
        due.is("tell() of three", x.tell(), 1);
        x.seen(1, 2);
        due.is("tell() of one", x.tell(), 0);
    }

    private static void note() {
        GloveRail x = Due.reading("street;glove 0 1 0;");
        due.is("note(0, 0, 0, 0)", x.note(0, 0, 0, 0), 1);
        int[][] bad = {{1, 0, 0, 0}, {-1, 0, 0, 0}, {0, -1, 0, 0}, {0, 100, 0, 0}, {0, 0, -1, 0}, {0, 0, 5, 0},
            {0, 0, 0, -1}, {0, 0, 0, 21}};
        for (int[] b : bad) {
            due.refused("a bad note", x, 0, () -> x.note(b[0], b[1], b[2], b[3]), -2);
        }
        due.is("note(0, 99, 4, 20)", x.note(0, 99, 4, 20), 2);
        for (int i = 3; i <= 6; i++) {
            due.is("note " + i, x.note(0, 1, 1, 1), i);
        }
        due.refused("a 7th note", x, 2, () -> x.note(0, 1, 1, 1), -4);
        due.refused("a bad 7th note", x, 0, () -> x.note(1, 1, 1, 1), -2);
    }

    private static void mark() {
        GloveRail x = Due.reading("street;crossing 0 1;");
        due.is("mark(0, 0, 1, 0)", x.mark(0, 0, 1, 0), 1);
        int[][] bad = {{1, 0, 1, 0}, {-1, 0, 1, 0}, {0, -1, 1, 0}, {0, 100, 1, 0}, {0, 0, 0, 0}, {0, 0, 8, 0},
            {0, 0, 1, -1}, {0, 0, 1, 21}};
        for (int[] b : bad) {
            due.refused("a bad mark", x, 0, () -> x.mark(b[0], b[1], b[2], b[3]), -2);
        }
        due.is("mark(0, 99, 7, 20)", x.mark(0, 99, 7, 20), 2);
        for (int i = 3; i <= 6; i++) {
            due.is("mark " + i, x.mark(0, 1, 1, 1), i);
        }
        due.refused("a 7th mark", x, 2, () -> x.mark(0, 1, 1, 1), -4);
        due.refused("a bad 7th mark", x, 0, () -> x.mark(0, 1, 8, 1), -2);
    }

    private static void forget() {
        GloveRail x = Due.reading("street;glove 0 1 0;crossing 0 1;");
        long before = x.digest();
        x.seen(1, 1);
        x.note(0, 1, 1, 1);
        x.note(0, 1, 1, 1);
        for (int i = 0; i < 3; i++) {
            x.mark(0, 1, 1, 1);
        }
        due.refused("forget(-1)", x, 0, () -> x.forget(-1), -2);
        due.refused("forget(3)", x, 0, () -> x.forget(3), -2);
        due.is("forget(1)", x.forget(1), 2);
        due.is("seen left", x.count(6), 1);
        due.is("marks left", x.count(8), 3);
        due.is("forget(1) again", x.forget(1), 0);
        due.is("forget(0)", x.forget(0), 1);
        due.is("forget(2)", x.forget(2), 3);
        due.is("all forgotten", x.digest(), before);
    }

    private static void isAndLook() {
        GloveRail x = Due.reading("street;glove 3 1 0;glove 0 1 0;");
        due.is("is(0) without notes", x.is(0), 63);
        due.is("look(0) without notes", x.look(0), 3);
        x.note(1, 0, 0, 0);
        due.is("is(0) by another's note", x.is(0), 63);
        due.is("is(1) by a note of no kind", x.is(1), 0);
        due.is("look(1) of no kind", x.look(1), -1);
        x.note(0, 0, 0, 4);
        due.is("is(0), 4 in hour 0", x.is(0), 8 + 16 + 32);
        due.is("look(0) at kid, odd, satin", x.look(0), 1);
        x.note(0, 2, 1, 1);
        due.is("is(0), 1 in hour 2 with wet 1, too", x.is(0), 16 + 32);
        due.is("look(0) at odd, satin", x.look(0), 1);
        x.note(0, 6, 4, 0);
        due.is("is(0), a satin", x.is(0), 32);
        due.is("look(0) at one", x.look(0), 0);
        GloveRail y = Due.reading("street;glove 3 1 0;");
        y.note(0, 96, 2, 1);
        due.is("is(0), 1 in hour 96 with wet 2", y.is(0), 1 + 2 + 4 + 16);
        due.is("look(0) at wool, leather, mitten, odd", y.look(0), 0);
        GloveRail z = Due.reading("street;glove 3 1 0;");
        z.note(0, 2, 4, 1);
        due.is("is(0), 1 in hour 2 with wet 4", z.is(0), 1 + 2 + 16);
        z.note(0, 5, 0, 1);
        due.is("is(0), 1 in dry hour 5", z.is(0), 1);
        GloveRail w = Due.reading("street;glove 3 1 0;");
        w.note(0, 2, 0, 1);
        w.note(0, 1, 3, 1);
        due.is("is(0), wool or odd", w.is(0), 1 + 16);
        due.refused("is(1)", w, 0, () -> w.is(1), -2);
        due.refused("is(-1)", w, 0, () -> w.is(-1), -2);
        due.refused("look(1)", w, 0, () -> w.look(1), -2);
        due.refused("look(-1)", w, 0, () -> w.look(-1), -2);
    }

    private static void kindsAndAsk() {
        GloveRail x = Due.reading("street;crossing 3 1;crossing 0 2;");
        due.is("kinds(0) without marks", x.kinds(0), 63);
        due.is("ask(0) without marks", x.ask(0), 2);
        x.mark(1, 0, 1, 2);
        due.is("kinds(0) by another's mark", x.kinds(0), 63);
        due.is("kinds(1), 2 in hour 0", x.kinds(1), 1 + 4 + 16);
        // Plain, wide, night: 2, 4, 5 in hour 6 with 5; with 4 wide and night are alike.
        due.is("ask(1) of plain, wide, night", x.ask(1), 65);
        x.mark(1, 7, 7, 0);
        due.is("kinds(1), none in hour 7 with 7", x.kinds(1), 1);
        due.is("ask(1) of one", x.ask(1), 1);
        x.mark(0, 1, 7, 1);
        due.is("kinds(0), 1 in hour 1 with 7", x.kinds(0), 8);
        x.mark(0, 2, 1, 2);
        due.is("kinds(0) of no kind", x.kinds(0), 0);
        due.is("ask(0) of no kind", x.ask(0), -1);
        x.forget(2);
        x.mark(0, 3, 3, 0);
        x.mark(0, 1, 1, 0);
        due.is("kinds(0), none in hours 1 and 3", x.kinds(0), 1 + 2 + 8 + 16 + 32);
        // Policed is as busy below 4, as plain by 4 and more: two alike at best, first in hour 0 with 1.
        due.is("ask(0) of all but wide", x.ask(0), 1);
        x.forget(2);
        x.mark(0, 3, 7, 0);
        due.is("kinds(0), none in hour 3 with 7", x.kinds(0), 1 + 2 + 16 + 32);
        due.is("ask(0) of plain, busy, night, locked", x.ask(0), 63);
        x.forget(2);
        x.mark(0, 2, 3, 3);
        due.is("kinds(0), wide or locked", x.kinds(0), 4 + 32);
        due.is("ask(0) of wide or locked", x.ask(0), 1);
        x.forget(2);
        x.mark(0, 8, 4, 2);
        x.mark(0, 3, 4, 0);
        due.is("kinds(0), plain or night", x.kinds(0), 1 + 16);
        due.is("ask(0) of plain or night", x.ask(0), 61);
        due.refused("kinds(2)", x, 0, () -> x.kinds(2), -2);
        due.refused("kinds(-1)", x, 0, () -> x.kinds(-1), -2);
        due.refused("ask(2)", x, 0, () -> x.ask(2), -2);
        due.refused("ask(-1)", x, 0, () -> x.ask(-1), -2);
    }

    private static void lady(String text, int... want) {
        GloveRail x = Due.reading(text);
        due.is("lady(0, -1) of " + text, x.lady(0, -1), want.length);
        for (int k = 0; k < want.length; k++) {
            due.is("lady(0, " + k + ") of " + text, x.lady(0, k), want[k]);
        }
        due.is("lady(0, one more) of " + text, x.lady(0, want.length), -5);
        due.is("not so many is not refused", x.status(0), 0);
    }

    private static void lady() {
        lady("street;glove 0 1 0;");
        lady("street;glove 0 1 15;");
        lady("street;glove 0 1 0;crossing 0 0;shut 0;", 0);
        lady("street;glove 0 1 3;crossing 0 3;shut 0;", 33);
        lady("street;glove 0 1 6;crossing 0 6;shut 0;", 66);
        lady("street;glove 0 1 9;crossing 0 9;shut 0;", 90, 91, 92);
        lady("street;glove 0 1 9;", 90, 91, 92);
        lady("street;glove 0 1 2;crossing 0 3;shut 0;");
        // At 2 and then at 6 (odd goes 4 in hour 0): elsewhere she would get 3, with the constable 2.
        lady("street;glove 4 1 2;crossing 0 6;shut 0;");
        GloveRail x = Due.reading("street;glove 0 1 9;");
        due.is("lady(0, 100)", x.lady(0, 100), -5);
        due.is("lady(0, the greatest)", x.lady(0, Integer.MAX_VALUE), -5);
        due.refused("lady(0, -2)", x, 0, () -> x.lady(0, -2), -10);
        due.refused("lady(1, -1)", x, 0, () -> x.lady(1, -1), -10);
        due.refused("lady(-1, 0)", x, 0, () -> x.lady(-1, 0), -10);
    }

    private static void rains(GloveRail x, int c, int above, int below) {
        due.is("rain(" + c + ")", x.rain(c), 1);
        due.is("rain(" + c + "), part(0)", x.part(0), above);
        due.is("rain(" + c + "), part(1)", x.part(1), below);
    }

    private static void rain() {
        rains(new GloveRail(), 5, 0, 1);
        // In hour 0 they go 1 2 1 4 4 4 in the dry, 1 1 0 2 4 0 in the wet.
        GloveRail x = Due.reading("street;wet 2 2;glove 0 1 0;glove 1 1 0;glove 2 1 22;glove 3 1 23;glove 4 1 4;"
                + "glove 5 1 4;glove 5 1 5;crossing 0 5;");
        rains(x, 0, 16, 1);
        rains(x, 10, 8, 1);
        rains(x, 5, 12, 1);
        rains(x, 1, 76, 5);
        rains(x, 3, 68, 5);
        GloveRail y = Due.reading("street;hours 1;glove 0 1 0;glove 1 1 0;glove 2 1 0;glove 3 1 0;glove 4 1 0;glove 5 1 0;");
        rains(y, 7, 11, 2);
        rains(y, 9, 9, 2);
        due.refused("rain(11)", y, 0, () -> y.rain(11), -2);
        due.refused("rain(-1)", y, 0, () -> y.rain(-1), -2);
        GloveRail z = Due.reading("street;glove 0 1 0;crossing 0 0;");
        z.rain(3);
        rains(z, 3, 0, 1);
    }

    /** One glove at 22 behind a plain crossing that is the given one of three: it is over, or it is not. */
    private static int overByWinter(int seed, int n, int number, boolean shutNow) {
        long x = seed;
        boolean shut = shutNow;
        for (int h = 0; h < n; h++) {
            x = x * 1103515245L + 12345L & (1L << 31) - 1;
            if ((x >> 16 & 3) == number) {
                shut = !shut;
            }
            if (!shut && h % 2 == 0) {
                return 1;
            }
        }
        return 0;
    }

    private static void winters() {
        String[] others = {"crossing 0 22;crossing 0 1;crossing 0 2;", "crossing 0 1;crossing 0 22;", "crossing 0 1;crossing 0 2;crossing 0 22;"};
        int[] seeds = {0, 1, 7, 42, 1000, 65535, 123456, 999998, 999999};
        for (int number = 0; number < 3; number++) {
            GloveRail x = Due.reading("street;glove 0 1 22;" + others[number] + "shut " + number + ";");
            for (int seed : seeds) {
                for (int n = 0; n <= 60; n = n < 12 ? n + 1 : n + 8) {
                    due.is("winters(" + seed + ", " + n + ") of shut " + number, x.winters(seed, n), overByWinter(seed, n, number, true));
                }
            }
            due.refused("winters(-1, 0)", x, 0, () -> x.winters(-1, 0), -2);
            due.refused("winters(1000000, 0)", x, 0, () -> x.winters(1000000, 0), -2);
            due.refused("winters(0, -1)", x, 0, () -> x.winters(0, -1), -2);
            due.refused("winters(0, 61)", x, 0, () -> x.winters(0, 61), -2);
        }
        GloveRail free = Due.reading("street;glove 0 1 0;glove 0 1 23;");
        due.is("winters(5, 22)", free.winters(5, 22), 1);
        due.is("winters(5, 23)", free.winters(5, 23), 2);
        due.is("winters of none", new GloveRail().winters(5, 9), 0);
    }

    private static void theyChangeNothing() {
        GloveRail x = Due.reading("street;wet 1 2;glove 0 1 4;glove 3 2 2;crossing 2 4;crossing 1 9;shut 1;hours 3;");
        x.seen(1, 5);
        x.note(0, 1, 1, 1);
        x.mark(0, 1, 1, 1);
        x.shuts(0);
        long before = x.digest();
        x.which();
        x.tell();
        x.is(0);
        x.look(0);
        x.kinds(0);
        x.ask(0);
        x.lady(0, -1);
        x.winters(7, 60);
        due.is("asked, then digest()", x.digest(), before);
        due.is("asked, then status(0)", x.status(0), 0);
    }
}
