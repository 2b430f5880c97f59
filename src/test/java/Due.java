/** Compares answers with those that are due, and counts the wrong ones. */
final class Due {
    private int checked;
    private int wrong;

    void is(String call, long got, long want) {
        checked++;
        if (got != want) {
            wrong++;
            System.out.println(call + " answered " + got + ", due is " + want);
        }
    }

    /** A call that is refused: its answer, that one of STATUS is 1 more, and that nothing else is changed. */
    void refused(String call, GloveRail x, int reason, java.util.function.LongSupplier made, long want) {
        long before = x.digest();
        int[] status = {x.status(0), x.status(1), x.status(2)};
        is(call, made.getAsLong(), want);
        for (int what = 0; what < 3; what++) {
            is(call + ", then status(" + what + ")", x.status(what), status[what] + (what == reason ? 1 : 0));
        }
        is(call + ", then digest()", x.digest(), before);
    }

    static void type(GloveRail x, String text) {
        x.clear();
        for (int i = 0; i < text.length(); i++) {
            x.type(text.charAt(i));
        }
    }

    static GloveRail reading(String text) {
        GloveRail x = new GloveRail();
        type(x, text);
        int items = x.read();
        if (items < 0) {
            throw new IllegalArgumentException(text + " answered " + items);
        }
        return x;
    }

    void end() {
        System.out.println(checked + " checks, " + wrong + " wrong");
        if (wrong != 0 || checked == 0) {
            System.exit(1);
        }
    }
}
