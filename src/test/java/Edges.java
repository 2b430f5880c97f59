import java.util.ArrayList;
import java.util.Arrays;
import java.util.List;
import java.util.regex.Matcher;
import java.util.regex.Pattern;

/**
 * Runs of calls told as texts, each held to a sentence of the document. A run is made on a new object; in it stand
 * <pre>
 *   hours(3)=0      a call and the answer that is due (without = any answer is)
 *   5*hours(3)=0    so many such calls
 *   (street;)       a text that is typed and read, so that there is a street
 *   ?hold(9)=0      a call that changes nothing at all
 *   !hold(0)=-2     a call that is refused: nothing is changed but one of STATUS, which is 1 more
 * </pre>
 */
final class Edges {
    /** Some of all there is, none of it full: 3 gloves, 2 crossings, 2 seen, notes and marks, 4 to undo, both images. */
    static final String SOME = "(street;wet 1 2 3 4 1 2;glove 0 1 4;glove 3 2 2;glove 5 9 23;crossing 2 4;crossing 1 9;shut 1;"
            + "hours 3;) seen(1,5) seen(2,6) note(0,1,1,1) note(1,2,2,2) mark(0,1,1,1) mark(1,2,3,4) hours(2) image(0)"
            + " shuts(0) hours(1) rain(3) image(1) hours(1)";

    /** Image 1 is kept, with 1 to undo; now there is none, and no image 0. */
    static final String ONE_IMAGE = "(street;glove 0 1 4;glove 3 2 2;crossing 2 9;shut 0;hours 3;) seen(1,5) note(0,1,1,1) mark(0,1,1,1)"
            + " rain(3) hours(1) image(1) wet(0,1)";

    /** All there may be: 7 gloves, 3 crossings, 5 seen, 6 notes and marks, 8 to undo, 150 bytes. */
    static final String FULL = "crossing(0,4) crossing(1,9) crossing(5,20) glove(0,1,0) glove(1,2,3) glove(2,3,6) glove(3,4,9)"
            + " glove(4,5,12) glove(5,6,15) glove(0,9,23) 5*seen(1,1) 6*note(6,1,1,1) 6*mark(2,1,1,1) 4*hours(1) shuts(1)"
            + " image(0) 4*hours(1) image(1) rain(3) 150*type(59)";

    /** 9999 hours have gone by. */
    static final String LAST_HOUR = "166*hours(60) hours(39) ";

    private static final Pattern ITEM = Pattern.compile(
            " *(?:\\(([^)]*)\\)|([?!]?)(?:(\\d+)\\*)?([a-z]+)\\(([-0-9, ]*)\\)(?:=(-?\\d+))?)(?= |$)");
    private static final String[] REASONS = {"BAD", "NO", "FULL"};

    private final Due due = new Due();

    /** One call of a run: how often it is made, the answer that is due (null: any), and what it may change. */
    private static final class Call {
        final String name;
        final int[] numbers;
        final int times;
        final Long want;
        final String mark;

        Call(String name, int[] numbers, int times, Long want, String mark) {
            this.name = name;
            this.numbers = numbers;
            this.times = times;
            this.want = want;
            this.mark = mark;
        }

        long on(GloveRail x) {
            Class<?>[] types = new Class<?>[numbers.length];
            Object[] values = new Object[numbers.length];
            for (int i = 0; i < numbers.length; i++) {
                types[i] = int.class;
                values[i] = numbers[i];
            }
            try {
                return ((Number) GloveRail.class.getMethod(name, types).invoke(x, values)).longValue();
            } catch (ReflectiveOperationException e) {
                throw new IllegalStateException(this + " can't be made", e);
            }
        }

        @Override
        public String toString() {
            return name + Arrays.toString(numbers).replace('[', '(').replace(']', ')');
        }
    }

    void says(String sentence, String... runs) {
        for (String run : runs) {
            hold(sentence, calls(run));
        }
    }

    /** A text that is read: how many ITEMS; then the rest of the run. */
    void reads(String sentence, String text, int items, String rest) {
        says(sentence, typed(text) + " read()=" + items + " count(10)=" + text.length() + " " + rest);
    }

    /** A text with a FAULT at that place: -10 less it, and all stays. */
    void faults(String sentence, String text, int place) {
        says(sentence, typed(text) + " ?read()=" + (-10 - place), SOME + " " + typed(text) + " ?read()=" + (-10 - place));
    }

    /** A call's numbers, each from the least to the greatest that is allowed there, and one beyond on both sides. */
    void numbers(String promise, String made, String name, int bad, int[]... ranges) {
        int[] fit = new int[ranges.length];
        int[] unfit = new int[ranges.length];
        for (int i = 0; i < ranges.length; i++) {
            fit[i] = ranges[i][0];
            unfit[i] = ranges[i][1] + 1;
        }
        says(promise, made + " !" + call(name, unfit) + "=" + bad);
        for (int i = 0; i < ranges.length; i++) {
            int[] a = fit.clone();
            for (int v : ranges[i]) {
                a[i] = v;
                says(promise, made + " " + call(name, a) + " status(0)=0 status(1)=0 status(2)=0");
            }
            for (int v : new int[] {ranges[i][0] - 1, ranges[i][1] + 1, Integer.MIN_VALUE, Integer.MAX_VALUE}) {
                a[i] = v;
                says(promise, made + " !" + call(name, a) + "=" + bad);
            }
        }
    }

    void end() {
        due.end();
    }

    private static String call(String name, int[] numbers) {
        return name + "(" + Arrays.toString(numbers).replaceAll("[\\[\\] ]", "") + ")";
    }

    private static String typed(String text) {
        StringBuilder run = new StringBuilder("clear()");
        for (char c : text.toCharArray()) {
            run.append(" type(").append((int) c).append(')');
        }
        return run.toString();
    }

    private static List<Call> calls(String run) {
        List<Call> calls = new ArrayList<>();
        Matcher item = ITEM.matcher(run);
        int end = 0;
        while (end < run.length() && item.find(end) && item.start() == end) {
            if (item.group(1) != null) {
                calls.addAll(calls(typed(item.group(1)) + " read()"));
            } else {
                String[] told = item.group(5).isBlank() ? new String[0] : item.group(5).split(",");
                int[] numbers = Arrays.stream(told).mapToInt(n -> Integer.parseInt(n.trim())).toArray();
                int times = item.group(3) == null ? 1 : Integer.parseInt(item.group(3));
                Long want = item.group(6) == null ? null : Long.valueOf(item.group(6));
                calls.add(new Call(item.group(4), numbers, times, want, item.group(2)));
            }
            end = item.end();
        }
        if (!run.substring(end).isBlank()) {
            throw new IllegalArgumentException("no run: " + run.substring(end));
        }
        return calls;
    }

    private void hold(String sentence, List<Call> calls) {
        GloveRail x = new GloveRail();
        for (int i = 0; i < calls.size(); i++) {
            Call call = calls.get(i);
            String name = "<" + sentence + "> call " + i + ", " + call;
            for (int n = 0; n < call.times; n++) {
                long answer = call.on(x);
                if (call.want != null) {
                    due.is(name, answer, call.want);
                }
            }
            if (!call.mark.isEmpty()) {
                changesNothing(name, calls.subList(0, i), call);
            }
        }
    }

    /** Of two objects made alike the one is asked, the other is not; both must go on alike. */
    private void changesNothing(String name, List<Call> ahead, Call call) {
        GloveRail asked = made(ahead);
        call.on(asked);
        long[] got = allOf(asked);
        long[] want = allOf(made(ahead));
        if (call.mark.equals("!")) {
            want[reason(call.want)]++;
        }
        for (int reason = 0; reason < REASONS.length; reason++) {
            due.is(name + ", then STATUS of " + REASONS[reason], got[reason], want[reason]);
        }
        due.is(name + ", then nothing else is changed (at " + Arrays.mismatch(got, want) + " of all)",
                Arrays.equals(got, want) ? 1 : 0, 1);
    }

    private static int reason(long answer) {
        return answer == -3 ? 1 : answer == -4 ? 2 : 0;
    }

    private static GloveRail made(List<Call> calls) {
        GloveRail x = new GloveRail();
        for (Call call : calls) {
            for (int n = 0; n < call.times; n++) {
                call.on(x);
            }
        }
        return x;
    }

    /** STATUS, then all that can be seen of what is there, of what may be undone, of IMAGES, and of THE TEXT. */
    private static long[] allOf(GloveRail x) {
        List<Long> all = new ArrayList<>();
        for (int what = 0; what < REASONS.length; what++) {
            all.add((long) x.status(what));
        }
        addWithPast(all, x);
        for (int image = 0; image < 2; image++) {
            all.add((long) x.from(image));
            addWithPast(all, x);
        }
        all.add((long) x.read());
        addWithPast(all, x);
        return all.stream().mapToLong(v -> v).toArray();
    }

    private static void addWithPast(List<Long> all, GloveRail x) {
        all.add(x.digest());
        while (x.count(9) > 0) {
            all.add((long) x.undo());
            all.add(x.digest());
        }
    }
}
