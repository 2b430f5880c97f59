/** Promises 33 to 38: part, image, from, status, count, digest. */
public final class WhatThereIsTest {
    private static final Due due = new Due();

    private static final String FULL = "street;wet 1 2 3 4 1 2;glove 0 1 4;glove 3 2 2;glove 5 9 23;"
            + "crossing 2 4;crossing 1 9;crossing 5 20;shut 1;hours 3;";

    public static void main(String[] args) {
        part();
        imageAndFrom();
        imagesKeepWhatMayBeUndone();
        status();
        count();
        digest();
        due.end();
    }

    private static void part() {
        GloveRail x = Due.reading("street;glove 1 1 0;");
        due.is("part(0) at first", x.part(0), 0);
        due.is("part(1) at first", x.part(1), 1);
        x.rain(3);
        due.is("part(0)", x.part(0), 17);
        due.is("part(1)", x.part(1), 10);
        due.refused("part(2)", x, 0, () -> x.part(2), -2);
        due.refused("part(-1)", x, 0, () -> x.part(-1), -2);
    }

    private static void imageAndFrom() {
        GloveRail x = Due.reading(FULL);
        due.refused("from(0), none kept", x, 1, () -> x.from(0), -3);
        due.refused("from(1), none kept", x, 1, () -> x.from(1), -3);
        due.refused("image(2)", x, 0, () -> x.image(2), -2);
        due.refused("image(-1)", x, 0, () -> x.image(-1), -2);
        due.refused("from(2)", x, 0, () -> x.from(2), -2);
        due.refused("from(-1)", x, 0, () -> x.from(-1), -2);
        for (int i = 0; i < 6; i++) {
            x.seen(10 + i, 2);
            x.note(0, 1 + i, 1, 1);
            x.mark(0, 1, 1 + i, i);
        }
        x.shuts(0);
        x.rain(3);
        long first = x.digest();
        due.is("image(1)", x.image(1), 1);
        due.refused("from(0), only 1 kept", x, 1, () -> x.from(0), -3);
        x.hours(9);
        x.shuts(2);
        x.forget(0);
        x.forget(1);
        x.forget(2);
        for (int i = 0; i < 6; i++) {
            x.seen(3, 4 + i);
            x.note(1, 2, 2, 2 + i);
            x.mark(1, 1, 1, i);
        }
        x.wet(0, 4);
        long second = x.digest();
        due.is("image(0)", x.image(0), 1);
        x.street();
        due.is("from(1)", x.from(1), 1);
        due.is("from(1), then digest()", x.digest(), first);
        due.is("from(0)", x.from(0), 1);
        due.is("from(0), then digest()", x.digest(), second);
        x.hours(5);
        due.is("from(1) again", x.from(1), 1);
        due.is("from(1) again, then digest()", x.digest(), first);
        x.shuts(1);
        due.is("image(1) anew", x.image(1), 1);
        long third = x.digest();
        x.street();
        x.from(1);
        due.is("from(1), anew", x.digest(), third);
        theyKeepAllButTheRest();
    }

    private static void theyKeepAllButTheRest() {
        GloveRail x = Due.reading("street;glove 1 1 0;");
        x.image(0);
        Due.type(x, "street; ");
        x.rain(3);
        x.hours(0);
        x.undo();
        x.image(1);
        x.from(0);
        due.is("from(0) leaves the text", x.count(10), 8);
        due.is("from(0) leaves the fraction", x.part(0), 17);
        due.is("from(0) leaves status: bad", x.status(0), 1);
        due.is("from(0) leaves status: no", x.status(1), 1);
        due.is("from(0) leaves the other image", x.from(1), 1);
    }

    private static void imagesKeepWhatMayBeUndone() {
        GloveRail x = Due.reading(FULL);
        for (int i = 0; i < 9; i++) {
            x.hours(1);
        }
        x.image(0);
        long kept = x.digest();
        x.street();
        x.crossing(1, 1);
        for (int i = 0; i < 9; i++) {
            x.shuts(0);
        }
        x.from(0);
        due.is("from(0), then digest()", x.digest(), kept);
        for (int i = 0; i < 8; i++) {
            due.is("from(0), then undo()", x.undo(), 11 - i);
        }
        due.is("from(0), then a 9th undo()", x.undo(), -3);
        GloveRail y = Due.reading(FULL);
        y.image(1);
        y.hours(1);
        y.from(1);
        due.is("from(1), nothing to undo", y.undo(), -3);
    }

    private static void status() {
        GloveRail x = new GloveRail();
        x.wet(9, 9);
        x.when(0);
        x.lady(0, -1);
        x.undo();
        x.from(0);
        for (int i = 0; i < 4; i++) {
            x.crossing(0, i);
        }
        x.read();
        x.when(-1);
        due.is("status(0)", x.status(0), 3);
        due.is("status(1)", x.status(1), 2);
        due.is("status(2)", x.status(2), 1);
        due.refused("status(3)", x, 0, () -> x.status(3), -1);
        due.refused("status(-1)", x, 0, () -> x.status(-1), -1);
        due.is("status(0) behind these", x.status(0), 5);
    }

    private static void count() {
        GloveRail x = Due.reading(FULL);
        // Wool waits at 4 for hour 0 and is let over in it (plain 2 and half of 1): 5, 6, 7.
        // Kid: wet 1 in hour 0 takes it from 2 to 4; in hour 1 nobody goes over alone; in hour 2 to 5.
        int[] want = {3, 3, 3, 1, 0, 1, 2, 1, 3, 4, FULL.length()};
        x.seen(1, 1);
        x.seen(1, 1);
        x.note(0, 1, 1, 1);
        for (int i = 0; i < 3; i++) {
            x.mark(0, 1, 1, 1);
        }
        for (int i = 0; i < 4; i++) {
            x.shuts(2);
        }
        for (int what = 0; what <= 10; what++) {
            due.is("count(" + what + ")", x.count(what), want[what]);
        }
        due.refused("count(11)", x, 0, () -> x.count(11), -2);
        due.refused("count(-1)", x, 0, () -> x.count(-1), -2);
        x.hours(2);
        due.is("who waits, at a shut one", x.count(4), 1);
        GloveRail y = Due.reading("street;glove 0 1 4;glove 0 1 9;glove 0 1 8;glove 0 1 4;glove 0 1 23;crossing 0 4;crossing 0 9;");
        due.is("who waits, at both", y.count(4), 3);
        x.shuts(0);
        due.is("two are shut", x.count(5), 2);
    }

    private static long folded(long... values) {
        long h = 1619;
        for (long v : values) {
            h = 31 * h + v;
        }
        return h;
    }

    private static void digest() {
        GloveRail x = Due.reading(FULL);
        x.seen(1, 2);
        x.seen(3, 4);
        x.note(2, 99, 4, 20);
        x.note(1, 5, 0, 6);
        x.mark(2, 7, 1, 8);
        x.rain(5);
        x.shuts(0);
        x.clear();
        x.type('s');
        // Wet 4 in hour 3 (odd): wool 1, kid 1, satin 0; dry: wool 1, kid 2, satin 2. 5 tenths of 2 and of 5.
        due.is("digest()", x.digest(), folded(3, 3, 3, 1, 0, 2, 2, 2, 1, 1, 1, 1, 2, 3, 4, 1, 2,
                0, 1, 7, 3, 2, 5, 5, 9, 23, 2, 4, 1, 1, 9, 1, 5, 20, 0,
                1, 2, 3, 4, 2, 99, 4, 20, 1, 5, 0, 6, 2, 7, 1, 8, 7, 2));
        due.is("digest() again", x.digest(), x.digest());
    }
}
