/** Promises 1 to 8: a new object, street, wet, glove, crossing, type, clear, read. */
public final class StreetTest {
    private static final Due due = new Due();

    public static void main(String[] args) {
        aNewObject();
        street();
        wet();
        glove();
        crossing();
        typeAndClear();
        readWhole();
        readState();
        readFaults();
        readFaultKeepsAll();
        due.end();
    }

    private static void aNewObject() {
        GloveRail x = new GloveRail();
        for (int what = 0; what <= 10; what++) {
            due.is("new, count(" + what + ")", x.count(what), 0);
        }
        due.is("new, part(0)", x.part(0), 0);
        due.is("new, part(1)", x.part(1), 1);
        for (int what = 0; what < 3; what++) {
            due.is("new, status(" + what + ")", x.status(what), 0);
        }
        long h = 1619;
        for (int i = 0; i < 11 + 6 + 1; i++) {
            h = 31 * h;
        }
        due.is("new, digest()", x.digest(), 31 * h + 1);
        due.is("new, undo()", x.undo(), -3);
        due.is("new, from(0)", x.from(0), -3);
        due.is("new, read()", x.read(), -10);
        for (int h6 = 0; h6 < 6; h6++) {
            due.is("new, wet(" + h6 + ", 0)", x.wet(h6, 0), 0);
        }
        due.is("the constants", GloveRail.NONE * 1000 + GloveRail.BAD * 100 + GloveRail.NO * 10 + GloveRail.FULL,
                -1000 - 200 - 30 - 4);
    }

    private static void street() {
        streetLeavesNothing();
        GloveRail x = new GloveRail();
        due.is("street() of a new one", x.street(), 0);
        long fresh = x.digest();
        x.wet(3, 2);
        x.glove(3, 4, 5);
        x.glove(3, 4, 5);
        x.crossing(3, 8);
        x.seen(4, 5);
        x.note(0, 1, 1, 1);
        x.mark(0, 1, 1, 1);
        x.hours(7);
        x.shuts(0);
        x.image(1);
        long kept = x.digest();
        due.is("street()", x.street(), 2);
        due.is("street(), then digest()", x.digest(), fresh);
        due.is("street(), then undo()", x.undo(), -3);
        due.is("street(), then crossing behind the same spike", x.crossing(0, 8), 0);
        due.is("street(), then shut is open", x.about(0, 2), 0);
        due.is("street() keeps images", x.from(1), 1);
        due.is("street() keeps images: digest()", x.digest(), kept);
        Due.type(x, "street");
        x.rain(3);
        x.hours(0);
        x.street();
        due.is("street() keeps the text", x.count(10), 6);
        // Of two kids in hour 7: 3 tenths of 1 and 1 in the wet, 7 tenths of 2 and 2 in the dry.
        due.is("street() keeps the fraction: above", x.part(0), 17);
        due.is("street() keeps the fraction: below", x.part(1), 5);
        due.is("street() keeps status: bad", x.status(0), 1);
        due.is("street() keeps status: no", x.status(1), 1);
    }

    private static void streetLeavesNothing() {
        GloveRail x = new GloveRail();
        long fresh = x.digest();
        for (int h = 0; h < 6; h++) {
            x.wet(h, 4);
        }
        x.glove(0, 1, 23);
        x.glove(0, 1, 23);
        x.crossing(0, 0);
        x.crossing(0, 22);
        x.shuts(0);
        x.street();
        due.is("street(), digest()", x.digest(), fresh);
        x.glove(0, 1, 0);
        due.is("street(), then nobody is over", x.count(3), 0);
        due.is("street(), then no crossing is behind 0", x.of(0, 3), 0);
        due.is("street(), then wool is not held", x.where(0, 23), 23);
        for (int h = 0; h < 6; h++) {
            due.is("street(), then wet(" + h + ", 0)", x.wet(h, 0), 0);
        }
    }

    private static void wet() {
        GloveRail x = new GloveRail();
        due.is("wet(0, 4)", x.wet(0, 4), 0);
        due.is("wet(0, 1)", x.wet(0, 1), 4);
        due.is("wet(5, 3)", x.wet(5, 3), 0);
        due.is("wet(5, 0)", x.wet(5, 0), 3);
        due.is("wet(0, 0)", x.wet(0, 0), 1);
        x.wet(1, 4);
        x.glove(2, 1, 0);
        x.hours(1);
        due.is("a mitten in wet hour 1", x.of(0, 4), 0);
        x.hours(1);
        due.is("a mitten in dry hour 2", x.of(0, 4), 1);
        x.hours(5);
        due.is("a mitten in hour 7, which has the wet of 1", x.of(0, 4), 0);
        due.refused("wet(-1, 0)", x, 0, () -> x.wet(-1, 0), -2);
        due.refused("wet(6, 0)", x, 0, () -> x.wet(6, 0), -2);
        due.refused("wet(0, -1)", x, 0, () -> x.wet(0, -1), -2);
        due.refused("wet(0, 5)", x, 0, () -> x.wet(0, 5), -2);
        due.is("3 may be undone", x.count(9), 3);
        x.wet(1, 4);
        due.is("behind a wet told none may be undone", x.undo(), -3);
    }

    private static void glove() {
        GloveRail x = new GloveRail();
        int[][] bad = {{-1, 1, 0}, {6, 1, 0}, {0, 0, 0}, {0, 10, 0}, {0, 1, -1}, {0, 1, 24},
            {Integer.MIN_VALUE, 1, 0}, {0, Integer.MAX_VALUE, 0}};
        for (int g = 0; g < 7; g++) {
            due.is("glove " + g, x.glove(g % 6, 9 - g, 23 - 2 * g), g);
            for (int[] b : bad) {
                due.refused("a bad glove", x, 0, () -> x.glove(b[0], b[1], b[2]), -2);
            }
        }
        for (int g = 0; g < 7; g++) {
            due.is("its kind", x.of(g, 0), g % 6);
            due.is("its mark", x.of(g, 1), 9 - g);
            due.is("its spike", x.of(g, 2), 23 - 2 * g);
        }
        due.refused("an 8th glove", x, 2, () -> x.glove(0, 1, 0), -4);
        due.refused("a bad 8th glove", x, 0, () -> x.glove(0, 1, 24), -2);
        x.street();
        x.hours(1);
        x.glove(5, 9, 0);
        due.is("behind a glove none may be undone", x.undo(), -3);
        due.is("the hour stays", x.count(2), 1);
    }

    private static void crossing() {
        GloveRail x = new GloveRail();
        due.is("crossing(5, 22)", x.crossing(5, 22), 0);
        due.is("crossing(0, 0)", x.crossing(0, 0), 1);
        due.refused("crossing(1, 22)", x, 0, () -> x.crossing(1, 22), -2);
        due.refused("crossing(1, 0)", x, 0, () -> x.crossing(1, 0), -2);
        due.refused("crossing(6, 1)", x, 0, () -> x.crossing(6, 1), -2);
        due.refused("crossing(-1, 1)", x, 0, () -> x.crossing(-1, 1), -2);
        due.refused("crossing(0, 23)", x, 0, () -> x.crossing(0, 23), -2);
        due.refused("crossing(0, -1)", x, 0, () -> x.crossing(0, -1), -2);
        x.hours(1);
        due.is("crossing(3, 7)", x.crossing(3, 7), 2);
        due.is("behind a crossing none may be undone", x.undo(), -3);
        due.refused("a 4th crossing", x, 2, () -> x.crossing(3, 8), -4);
        due.refused("a 4th one where there is one", x, 0, () -> x.crossing(3, 7), -2);
        due.is("kind of 0", x.about(0, 0), 5);
        due.is("spike of 0", x.about(0, 1), 22);
        due.is("kind of 2", x.about(2, 0), 3);
        due.is("spike of 2", x.about(2, 1), 7);
        due.is("open at first", x.count(5), 0);
    }

    private static void typeAndClear() {
        GloveRail x = new GloveRail();
        due.refused("type(-1)", x, 0, () -> x.type(-1), -2);
        due.refused("type(128)", x, 0, () -> x.type(128), -2);
        due.is("clear() of an empty text", x.clear(), 0);
        due.is("type(0)", x.type(0), 1);
        due.is("type(127)", x.type(127), 2);
        due.is("clear()", x.clear(), 2);
        due.is("clear(), then count(10)", x.count(10), 0);
        for (int i = 1; i <= 150; i++) {
            due.is("type(59)", x.type(59), i);
        }
        due.refused("a 151st byte", x, 2, () -> x.type(59), -4);
        due.refused("a bad 151st byte", x, 0, () -> x.type(128), -2);
        due.is("clear() of a full text", x.clear(), 150);
        due.is("type(115) behind it", x.type(115), 1);
    }

    private static void reads(String text, int want) {
        GloveRail x = new GloveRail();
        Due.type(x, text);
        due.is("read() of <" + text + ">", x.read(), want);
        due.is("read() of <" + text + ">, then status(0)", x.status(0) + x.status(1) + x.status(2), 0);
        due.is("read() of <" + text + ">, then count(10)", x.count(10), text.length());
    }

    private static void readWhole() {
        reads("street;", 1);
        reads("  street  ;  ", 1);
        reads("street;wet 4;", 2);
        reads("street;wet 0 1 2 3 4 0;", 2);
        reads("street;wet 1;wet 2;wet 03 04;", 4);
        reads("street;wet0 1;glove0 1 2;crossing0 3;shut0;hours1;", 6);
        reads("street;glove 5 9 23;glove 00 01 00;", 3);
        reads("street;crossing 5 22;crossing 0 0;crossing 1 1;", 4);
        reads("street;crossing 0 3;shut 0;shut 0;shut 00;", 5);
        reads("street;hours 1;hours 99 ;hours 01;", 4);
        String full = "street;";
        for (int i = 0; i < 17; i++) {
            full = full + "hours99;";
        }
        reads(full + "       ", 18);
        String gloves = "street;";
        for (int i = 0; i < 7; i++) {
            gloves = gloves + "glove 0 1 0;";
        }
        reads(gloves, 8);
    }

    private static void readState() {
        GloveRail x = new GloveRail();
        x.wet(5, 4);
        x.glove(0, 1, 0);
        x.glove(0, 1, 0);
        x.crossing(0, 1);
        x.hours(9);
        x.image(0);
        x.seen(1, 1);
        x.note(0, 1, 1, 1);
        x.mark(0, 1, 1, 1);
        x.undo();
        x.undo();
        x.rain(1);
        long above = x.part(0);
        x.hours(3);
        Due.type(x, "street; wet 1 2; glove 3 4 0; hours 3; crossing 4 9; glove 1 2 22; crossing 1 4; shut 1; shut 0;"
                + " shut 0; hours 2; wet 3;");
        due.is("read()", x.read(), 12);
        due.is("gloves", x.count(0), 2);
        due.is("crossings", x.count(1), 2);
        due.is("the hour", x.count(2), 5);
        // The kid goes 2 (wet 1), 1 (wet 2), 4 to 7, where it stands when the crossings come; 2 to 9; over to 10.
        due.is("where the kid is", x.of(0, 2), 10);
        due.is("where the leather is", x.of(1, 2), 23);
        due.is("0 is open", x.about(0, 2), 0);
        due.is("1 is shut", x.about(1, 2), 1);
        due.is("seen", x.count(6), 0);
        due.is("notes", x.count(7), 0);
        due.is("marks", x.count(8), 0);
        due.is("undo", x.undo(), -3);
        due.is("the fraction stays", x.part(0), above);
        due.is("status stays", x.status(1), 2);
        due.is("wet 0 was told twice", x.wet(0, 0), 3);
        due.is("wet 1", x.wet(1, 0), 2);
        due.is("wet 2", x.wet(2, 0), 0);
        due.is("wet 5 as at first", x.wet(5, 0), 0);
        due.is("an image stays", x.from(0), 1);
        due.is("the image's hour", x.count(2), 9);
        Due.type(x, "street;glove 0 1 0;crossing 0 9;");
        due.is("another read()", x.read(), 3);
        due.is("another read(): its gloves alone", x.count(0), 1);
        due.is("another read(): its crossings alone", x.about(0, 1), 9);
        due.is("another read(): its hour", x.count(2), 0);
    }

    private static void readFaults() {
        reads("", -10);
        reads(" ", -11);
        reads("street", -16);
        reads("street   ", -19);
        reads("stree", -10);
        reads("streets;", -10);
        reads("ztreet;", -10);
        reads("streex;", -10);
        reads("street-", -16);
        reads("street\t;", -16);
        reads("street;hours 1:", -24);
        reads("street;xet 1;", -17);
        reads("streeta;", -10);
        reads("streetz;", -10);
        reads(" Street;", -11);
        reads("wet 0;", -10);
        reads(";", -10);
        reads("5", -10);
        reads("street;street;", -17);
        reads("street street;", -17);
        reads("street 1;", -17);
        reads("street;;", -17);
        reads("street;1;", -17);
        reads("street;frost 1;", -17);
        reads("street;\thours 1;", -17);
        reads("street;" + (char) 0, -17);
        reads("street; " + (char) 127, -18);
        reads("street;`", -17);
        reads("street;{", -17);
        reads("street;wet", -20);
        reads("street;wet 1", -22);
        reads("street;wet;", -20);
        reads("street;wet 5;", -21);
        reads("street;wet 04 10;", -24);
        reads("street;wet 000;", -21);
        reads("street;wet 0 1 2 3 4 0 1;", -33);
        reads("street;wet 0 1 wet 1;", -25);
        reads("street;glove", -22);
        reads("street;glove 6 1 0;", -23);
        reads("street;glove 0 0 0;", -25);
        reads("street;glove 0 10 0;", -25);
        reads("street;glove 0 1 24;", -27);
        reads("street;glove 0 1;", -26);
        reads("street;glove 0;", -24);
        reads("street;glove 0 1 2 3;", -29);
        reads("street;glove wool 1 2;", -23);
        reads("street;glove 0 1 222;", -27);
        String gloves = "street;glove 0 1 0;glove 0 1 0;glove 0 1 0;glove 0 1 0;glove 0 1 0;glove 0 1 0;glove 0 1 0;";
        reads(gloves + "glove", -101);
        reads(gloves + " glove 9;", -102);
        reads("street;crossing 6 0;", -26);
        reads("street;crossing 0 23;", -28);
        reads("street;crossing 0;", -27);
        reads("street;crossing 0 3;crossing 1 3;", -41);
        reads("street;crossing 0 3;crossing 1;", -40);
        reads("street;crossing 0 0;crossing 1 0;", -41);
        reads("street;crossing 0 22;crossing 1 22;", -42);
        reads("street;crossing 0 3;crossing 3;", -40);
        reads("street;crossing 0 0;crossing 0 1;crossing 0 2;crossing 0 3;", -56);
        reads("street;crossing 0 0;crossing 0 1;crossing 0 2;crossing", -56);
        reads("street;shut 0;", -22);
        reads("street;crossing 0 3;shut 1;", -35);
        reads("street;crossing 0 3;shut;", -34);
        reads("street;crossing 0 3;shut 0 0;", -37);
        reads("street;hours", -22);
        reads("street;hours 0;", -23);
        reads("street;hours 00;", -23);
        reads("street;hours 100;", -23);
        reads("street;hours 4294967297;", -23);
        reads("street;hours 1", -24);
        reads("street;hours 1x;", -24);
        reads("street;hours 1 1;", -25);
        reads("street;hours-1;", -22);
        reads("street;hours 1;hour", -25);
        reads("street;hours /;", -23);
        reads("street;hours :;", -23);
    }

    private static void readFaultKeepsAll() {
        GloveRail x = new GloveRail();
        x.glove(3, 4, 5);
        x.crossing(2, 8);
        x.wet(1, 1);
        x.seen(1, 1);
        x.hours(4);
        Due.type(x, "street; glove 0 1 2; hours 9; shut 0;");
        long before = x.digest();
        due.is("read() with a fault", x.read(), -10 - 35);
        due.is("read() with a fault, then digest()", x.digest(), before);
        due.is("read() with a fault, then undo()", x.undo(), 0);
        due.is("read() with a fault, then undo(): the spike", x.of(0, 2), 5);
    }
}
