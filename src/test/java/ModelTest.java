import java.util.ArrayList;
import java.util.List;
import java.util.Random;
import java.util.function.IntBinaryOperator;
import java.util.regex.Matcher;
import java.util.regex.Pattern;

/** Random runs of calls, each answer against a second, slower telling of the document in other words. */
public final class ModelTest {
    private static final int RUNS = 400;
    private static final int CALLS = 500;

    public static void main(String[] args) {
        Due due = new Due();
        for (int seed = 1; seed <= RUNS; seed++) {
            run(due, new Random(seed), "seed " + seed);
        }
        due.end();
    }

    private static void run(Due due, Random random, String name) {
        GloveRail real = new GloveRail();
        Model model = new Model();
        // A run with few wrong numbers goes deep; one with many tries the refusals.
        Arguments arguments = new Arguments(random, random.nextInt(4) == 0 ? 4 : 40);
        for (int i = 0; i < CALLS; i++) {
            int call = arguments.call();
            if (call == Calls.READ && random.nextInt(3) > 0) {
                arguments.text(real, model);
                i += 100;
            }
            int[] a = arguments.of(call);
            long want = Calls.onModel(model, call, a);
            due.is(name + ", call " + i + ": " + Calls.NAMES[call] + java.util.Arrays.toString(a),
                    Calls.onReal(real, call, a), want);
            if (i % 7 == 0) {
                due.is(name + ", digest behind call " + i, real.digest(), model.digest());
            }
        }
        for (int what = 0; what < 3; what++) {
            due.is(name + ", status(" + what + ")", real.status(what), model.status[what]);
        }
    }

    /** Random numbers that fit most of the time. */
    private static final class Arguments {
        private final Random random;
        private final int oneIn;

        Arguments(Random random, int oneIn) {
            this.random = random;
            this.oneIn = oneIn;
        }

        int call() {
            int call = random.nextInt(Calls.NAMES.length);
            // These undo what a run has come to.
            boolean rare = call == 0 || call == Calls.READ || call == Calls.CLEAR;
            return rare && random.nextInt(8) > 0 ? 1 + random.nextInt(4) : call;
        }

        private int within(int least, int most) {
            if (random.nextInt(oneIn) == 0) {
                int[] odd = {least - 1, most + 1, -1, -2, Integer.MIN_VALUE, Integer.MAX_VALUE, 1000};
                return odd[random.nextInt(odd.length)];
            }
            return least + random.nextInt(most - least + 1);
        }

        int[] of(int call) {
            int[][] bounds = Calls.BOUNDS[call];
            int[] a = new int[bounds.length];
            for (int i = 0; i < a.length; i++) {
                a[i] = within(bounds[i][0], bounds[i][1]);
            }
            return a;
        }

        private int figure(int least, int most) {
            return random.nextInt(60) == 0 ? random.nextInt(130) : least + random.nextInt(most - least + 1);
        }

        private String item() {
            switch (random.nextInt(12)) {
                case 0: case 1: {
                    StringBuilder wet = new StringBuilder("wet");
                    for (int i = 0; i <= random.nextInt(random.nextInt(4) == 0 ? 8 : 6); i++) {
                        wet.append(' ').append(figure(0, 4));
                    }
                    return wet.toString();
                }
                case 2: case 3: case 4: case 5:
                    return "glove " + figure(0, 5) + " " + figure(1, 9) + " " + figure(0, 23);
                case 6: case 7: case 8:
                    return "crossing " + figure(0, 5) + " " + figure(0, 22);
                case 9: return "shut " + figure(0, 2);
                case 10: return "hours " + figure(1, 6);
                default: return random.nextInt(3) == 0 ? "hours " + figure(1, 99) : "glove 0 1 0";
            }
        }

        void text(GloveRail real, Model model) {
            StringBuilder text = new StringBuilder("street;");
            int items = random.nextInt(12);
            for (int i = 0; i < items; i++) {
                text.append(random.nextInt(5) == 0 ? " " : "").append(item()).append(random.nextInt(9) == 0 ? " ;" : ";");
            }
            if (random.nextInt(4) == 0) {
                text.setLength(random.nextInt(text.length() + 1));
            }
            if (random.nextInt(3) == 0 && text.length() > 0) {
                String signs = "   ;;0123459azs\t-A\u007f\u0000";
                text.setCharAt(random.nextInt(text.length()), signs.charAt(random.nextInt(signs.length())));
            }
            real.clear();
            model.text.setLength(0);
            for (int i = 0; i < Math.min(150, text.length()); i++) {
                real.type(text.charAt(i));
                model.text.append(text.charAt(i));
            }
        }
    }

    /** The calls by number, with what their numbers may be. */
    private static final class Calls {
        static final int CLEAR = 5, READ = 6;
        static final String[] NAMES = {"street", "wet", "glove", "crossing", "type", "clear", "read", "hours", "shuts",
            "undo", "of", "about", "where", "when", "pairs", "heap", "hold", "drop", "seen", "which", "tell", "note",
            "mark", "forget", "is", "look", "kinds", "ask", "lady", "rain", "winters", "part", "image", "from", "status",
            "count", "digest"};
        private static final int[] G = {0, 6}, K = {0, 2}, KIND = {0, 5}, HOURS = {0, 60};
        static final int[][][] BOUNDS = {{}, {{0, 5}, {0, 4}}, {KIND, {1, 9}, {0, 23}}, {KIND, {0, 22}}, {{0, 127}}, {}, {},
            {{1, 6}}, {K}, {}, {G, {0, 4}}, {K, {0, 4}}, {G, HOURS}, {{-1, 6}}, {{-1, 6}}, {{0, 2}}, {{1, 60}},
            {KIND, G, {1, 30}}, {{0, 20}, {0, 23}}, {}, {}, {G, {0, 99}, {0, 4}, {0, 4}}, {K, {0, 99}, {1, 7}, {0, 4}}, K(0, 2),
            {G}, {G}, {K}, {K}, {G, {-1, 4}}, {{0, 10}}, {{0, 999999}, HOURS}, {{0, 1}}, {{0, 1}}, {{0, 1}}, {{0, 2}},
            {{0, 10}}, {}};

        private static int[][] K(int least, int most) {
            return new int[][] {{least, most}};
        }

        static long onReal(GloveRail x, int call, int[] a) {
            switch (call) {
                case 0: return x.street();
                case 1: return x.wet(a[0], a[1]);
                case 2: return x.glove(a[0], a[1], a[2]);
                case 3: return x.crossing(a[0], a[1]);
                case 4: return x.type(a[0]);
                case 5: return x.clear();
                case 6: return x.read();
                case 7: return x.hours(a[0]);
                case 8: return x.shuts(a[0]);
                case 9: return x.undo();
                case 10: return x.of(a[0], a[1]);
                case 11: return x.about(a[0], a[1]);
                case 12: return x.where(a[0], a[1]);
                case 13: return x.when(a[0]);
                case 14: return x.pairs(a[0]);
                case 15: return x.heap(a[0]);
                case 16: return x.hold(a[0]);
                case 17: return x.drop(a[0], a[1], a[2]);
                case 18: return x.seen(a[0], a[1]);
                case 19: return x.which();
                case 20: return x.tell();
                case 21: return x.note(a[0], a[1], a[2], a[3]);
                case 22: return x.mark(a[0], a[1], a[2], a[3]);
                case 23: return x.forget(a[0]);
                case 24: return x.is(a[0]);
                case 25: return x.look(a[0]);
                case 26: return x.kinds(a[0]);
                case 27: return x.ask(a[0]);
                case 28: return x.lady(a[0], a[1]);
                case 29: return x.rain(a[0]);
                case 30: return x.winters(a[0], a[1]);
                case 31: return x.part(a[0]);
                case 32: return x.image(a[0]);
                case 33: return x.from(a[0]);
                case 34: return x.status(a[0]);
                case 35: return x.count(a[0]);
                default: return x.digest();
            }
        }

        static long onModel(Model x, int call, int[] a) {
            switch (call) {
                case 0: return x.street();
                case 1: return x.wet(a[0], a[1]);
                case 2: return x.glove(a[0], a[1], a[2]);
                case 3: return x.crossing(a[0], a[1]);
                case 4: return x.type(a[0]);
                case 5: return x.clear();
                case 6: return x.read();
                case 7: return x.hours(a[0]);
                case 8: return x.shuts(a[0]);
                case 9: return x.undo();
                case 10: return x.of(a[0], a[1]);
                case 11: return x.about(a[0], a[1]);
                case 12: return x.where(a[0], a[1]);
                case 13: return x.when(a[0]);
                case 14: return x.pairs(a[0]);
                case 15: return x.heap(a[0]);
                case 16: return x.hold(a[0]);
                case 17: return x.drop(a[0], a[1], a[2]);
                case 18: return x.seen(a[0], a[1]);
                case 19: return x.which();
                case 20: return x.tell();
                case 21: return x.note(a[0], a[1], a[2], a[3]);
                case 22: return x.mark(a[0], a[1], a[2], a[3]);
                case 23: return x.forget(a[0]);
                case 24: return x.is(a[0]);
                case 25: return x.look(a[0]);
                case 26: return x.kinds(a[0]);
                case 27: return x.ask(a[0]);
                case 28: return x.lady(a[0], a[1]);
                case 29: return x.rain(a[0]);
                case 30: return x.winters(a[0], a[1]);
                case 31: return x.part(a[0]);
                case 32: return x.image(a[0]);
                case 33: return x.from(a[0]);
                case 34: return x.status(a[0]);
                case 35: return x.count(a[0]);
                default: return x.digest();
            }
        }
    }

    /** A street as lists: gloves are kind, mark, spike; crossings kind, spike, shut. */
    private static final class Rail {
        int[] wets = new int[6];
        List<int[]> gloves = new ArrayList<>();
        List<int[]> crossings = new ArrayList<>();
        int hour;

        static final IntBinaryOperator WOOL = (h, w) -> 1;
        static final IntBinaryOperator LEATHER = (h, w) -> WOOL.applyAsInt(h, w) + (w == 0 ? 1 : 0);
        static final IntBinaryOperator MITTEN = (h, w) -> w > 2 ? 0 : WOOL.applyAsInt(h, w);
        static final IntBinaryOperator KID = (h, w) -> LEATHER.applyAsInt(h, w) * (2 - h % 2);
        static final IntBinaryOperator ODD = (h, w) -> WOOL.applyAsInt(h, w) + (h % 5 == 0 ? 3 : 0);
        static final IntBinaryOperator SATIN = (h, w) -> Math.max(KID.applyAsInt(h, w) - w, 0);
        static final IntBinaryOperator[] GLOVES = {WOOL, LEATHER, MITTEN, KID, ODD, SATIN};

        static final IntBinaryOperator PLAIN = (h, n) -> h % 2 == 0 ? 2 : 0;
        static final IntBinaryOperator BUSY = (h, n) -> Math.max(PLAIN.applyAsInt(h, n) - 1, 0);
        static final IntBinaryOperator WIDE = (h, n) -> PLAIN.applyAsInt(h, n) + n / 2;
        static final IntBinaryOperator POLICED = (h, n) -> BUSY.applyAsInt(h, n) + (n > 3 ? 1 : 0);
        static final IntBinaryOperator NIGHT = (h, n) -> h % 8 > 5 ? n : PLAIN.applyAsInt(h, n);
        static final IntBinaryOperator LOCKED = (h, n) -> h % 3 == 0 ? 0 : WIDE.applyAsInt(h, n);
        static final IntBinaryOperator[] CROSSINGS = {PLAIN, BUSY, WIDE, POLICED, NIGHT, LOCKED};

        Rail copied() {
            Rail other = new Rail();
            other.wets = wets.clone();
            gloves.forEach(g -> other.gloves.add(g.clone()));
            crossings.forEach(c -> other.crossings.add(c.clone()));
            other.hour = hour;
            return other;
        }

        int[] crossingAt(int s) {
            return crossings.stream().filter(c -> c[1] == s).findFirst().orElse(null);
        }

        int waiting(int[] c) {
            return (int) gloves.stream().filter(g -> g[2] == c[1]).count();
        }

        boolean over(int g) {
            return gloves.get(g)[2] == 23;
        }

        int overs() {
            return (int) gloves.stream().filter(g -> g[2] == 23).count();
        }

        void hourGoesBy() {
            List<int[]> then = copied().gloves;
            for (int[] c : crossings) {
                int n = waiting(c);
                int left = c[2] == 1 ? 0 : CROSSINGS[c[0]].applyAsInt(hour, n);
                for (int g = 0; g < gloves.size(); g++) {
                    if (gloves.get(g)[2] == c[1] && left-- > 0) {
                        then.get(g)[2]++;
                    }
                }
            }
            for (int g = 0; g < gloves.size(); g++) {
                int[] glove = gloves.get(g);
                if (crossingAt(glove[2]) == null) {
                    int end = crossings.stream().mapToInt(c -> c[1]).filter(s -> s > glove[2]).min().orElse(23);
                    int goes = GLOVES[glove[0]].applyAsInt(hour, wets[hour % 6]);
                    then.get(g)[2] = Math.min(end, glove[2] + goes);
                }
            }
            gloves = then;
            hour++;
        }

        Rail behind(int m) {
            Rail other = copied();
            for (int i = 0; i < m; i++) {
                other.hourGoesBy();
            }
            return other;
        }
    }

    /** All that an image keeps. */
    private static final class Kept {
        Rail rail = new Rail();
        List<Rail> past = new ArrayList<>();
        List<int[]> seen = new ArrayList<>();
        List<int[]> notes = new ArrayList<>();
        List<int[]> marks = new ArrayList<>();

        Kept copied() {
            Kept other = new Kept();
            other.rail = rail.copied();
            past.forEach(r -> other.past.add(r.copied()));
            other.seen.addAll(seen);
            other.notes.addAll(notes);
            other.marks.addAll(marks);
            return other;
        }
    }

    /** The second telling. */
    private static final class Model {
        Kept now = new Kept();
        final Kept[] images = new Kept[2];
        final StringBuilder text = new StringBuilder();
        final int[] status = new int[3];
        int above = 0;
        int below = 1;

        private int refuse(int reason, int answer) {
            status[reason]++;
            return answer;
        }

        private int bad() {
            return refuse(0, -2);
        }

        private static boolean in(int x, int least, int most) {
            return least <= x && x <= most;
        }

        private boolean glove(int g) {
            return in(g, 0, now.rail.gloves.size() - 1);
        }

        private boolean crossing(int k) {
            return in(k, 0, now.rail.crossings.size() - 1);
        }

        int street() {
            int gloves = now.rail.gloves.size();
            now = new Kept();
            return gloves;
        }

        int wet(int h, int w) {
            if (!in(h, 0, 5) || !in(w, 0, 4)) {
                return bad();
            }
            int was = now.rail.wets[h];
            now.rail.wets[h] = w;
            now.past.clear();
            return was;
        }

        int glove(int kind, int mark, int s) {
            if (!in(kind, 0, 5) || !in(mark, 1, 9) || !in(s, 0, 23)) {
                return bad();
            }
            if (now.rail.gloves.size() == 7) {
                return refuse(2, -4);
            }
            now.past.clear();
            now.rail.gloves.add(new int[] {kind, mark, s});
            return now.rail.gloves.size() - 1;
        }

        int crossing(int kind, int s) {
            if (!in(kind, 0, 5) || !in(s, 0, 22) || now.rail.crossingAt(s) != null) {
                return bad();
            }
            if (now.rail.crossings.size() == 3) {
                return refuse(2, -4);
            }
            now.past.clear();
            now.rail.crossings.add(new int[] {kind, s, 0});
            return now.rail.crossings.size() - 1;
        }

        int type(int c) {
            if (!in(c, 0, 127)) {
                return bad();
            }
            if (text.length() == 150) {
                return refuse(2, -4);
            }
            return text.append((char) c).length();
        }

        int clear() {
            int length = text.length();
            text.setLength(0);
            return length;
        }

        int read() {
            Text reading = new Text(text.toString());
            int answer = reading.read();
            if (answer > 0) {
                now = new Kept();
                now.rail = reading.rail;
            }
            return answer;
        }

        private void keep() {
            now.past.add(now.rail.copied());
            if (now.past.size() == 9) {
                now.past.remove(0);
            }
        }

        int hours(int n) {
            if (!in(n, 1, 60)) {
                return bad();
            }
            keep();
            for (int i = 0; i < n && now.rail.hour < 9999; i++) {
                now.rail.hourGoesBy();
            }
            return now.rail.overs();
        }

        int shuts(int k) {
            if (!crossing(k)) {
                return bad();
            }
            keep();
            int[] c = now.rail.crossings.get(k);
            c[2] = 1 - c[2];
            return c[2];
        }

        int undo() {
            if (now.past.isEmpty()) {
                return refuse(1, -3);
            }
            now.rail = now.past.remove(now.past.size() - 1);
            return now.rail.hour;
        }

        private int goes(int g, int h, int w) {
            return Rail.GLOVES[now.rail.gloves.get(g)[0]].applyAsInt(h, w);
        }

        private boolean waits(int g) {
            return now.rail.crossingAt(now.rail.gloves.get(g)[2]) != null;
        }

        int of(int g, int what) {
            if (!glove(g) || !in(what, 0, 4)) {
                return bad();
            }
            if (what < 3) {
                return now.rail.gloves.get(g)[what];
            }
            return what == 3 ? (waits(g) ? 1 : 0) : goes(g, now.rail.hour, now.rail.wets[now.rail.hour % 6]);
        }

        int about(int k, int what) {
            if (!crossing(k) || !in(what, 0, 4)) {
                return bad();
            }
            int[] c = now.rail.crossings.get(k);
            int n = now.rail.waiting(c);
            return what < 3 ? c[what] : what == 3 || n == 0 ? n : Rail.CROSSINGS[c[0]].applyAsInt(now.rail.hour, n);
        }

        int where(int g, int m) {
            return glove(g) && in(m, 0, 60) ? now.rail.behind(m).gloves.get(g)[2] : bad();
        }

        int when(int g) {
            if (g != -1 && !glove(g)) {
                return refuse(0, -10);
            }
            for (int m = 0; m <= 60; m++) {
                Rail then = now.rail.behind(m);
                if (g == -1 ? then.overs() == then.gloves.size() : then.over(g)) {
                    return m;
                }
            }
            return -1;
        }

        private int mostPairs;
        private int[] firstWay;

        private void pair(int g, int[] with, int many) {
            List<int[]> gloves = now.rail.gloves;
            if (g == gloves.size()) {
                if (many > mostPairs) {
                    mostPairs = many;
                    firstWay = with.clone();
                }
                return;
            }
            if (with[g] != -1) {
                pair(g + 1, with, many);
                return;
            }
            pair(g + 1, with, many);
            for (int o = g + 1; o < gloves.size(); o++) {
                boolean fit = gloves.get(o)[0] == gloves.get(g)[0] && Math.abs(gloves.get(o)[1] - gloves.get(g)[1]) < 2;
                if (with[o] == -1 && fit) {
                    with[g] = o;
                    with[o] = g;
                    pair(g + 1, with, many + 1);
                    with[g] = -1;
                    with[o] = -1;
                }
            }
        }

        int pairs(int g) {
            if (g != -1 && !glove(g)) {
                return refuse(0, -10);
            }
            int[] alone = new int[now.rail.gloves.size()];
            java.util.Arrays.fill(alone, -1);
            mostPairs = -1;
            pair(0, alone, 0);
            return g == -1 ? mostPairs : firstWay[g];
        }

        int heap(int what) {
            if (!in(what, 0, 2)) {
                return bad();
            }
            int[] best = {0, 0, -1};
            for (int m = 0; m <= 30; m++) {
                Rail then = now.rail.behind(m);
                for (int s = 0; s < 23; s++) {
                    int[] c = then.crossingAt(s);
                    if (c != null && then.waiting(c) > best[0]) {
                        best = new int[] {then.waiting(c), m, s};
                    }
                }
            }
            return best[what];
        }

        int hold(int m) {
            if (!in(m, 1, 60)) {
                return bad();
            }
            int most = now.rail.crossings.size();
            for (int many = 0; many <= most; many++) {
                for (int bits = 0; bits < 1 << most; bits++) {
                    if (Integer.bitCount(bits) == many && nothingMoreIsOver(bits, m)) {
                        return bits;
                    }
                }
            }
            return -1;
        }

        private boolean nothingMoreIsOver(int bits, int m) {
            Rail shut = now.rail.copied();
            for (int k = 0; k < shut.crossings.size(); k++) {
                shut.crossings.get(k)[2] = bits >> k & 1;
            }
            Rail then = shut.behind(m);
            for (int g = 0; g < then.gloves.size(); g++) {
                if (then.over(g) && !now.rail.over(g)) {
                    return false;
                }
            }
            return true;
        }

        int drop(int kind, int g, int m) {
            if (!in(kind, 0, 5) || !glove(g) || !in(m, 1, 30)) {
                return bad();
            }
            int bits = 0;
            for (int s = 0; s <= 22; s++) {
                Rail more = now.rail.copied();
                more.gloves.add(new int[] {kind, 5, s});
                Rail then = more.behind(m);
                if (then.gloves.get(then.gloves.size() - 1)[2] == then.gloves.get(g)[2]) {
                    bits += 1 << s;
                }
            }
            return bits;
        }

        private int told(List<int[]> list, int most, int... values) {
            if (list.size() == most) {
                return refuse(2, -4);
            }
            list.add(values);
            return list.size();
        }

        int seen(int m, int s) {
            return in(m, 0, 60) && in(s, 0, 23) ? told(now.seen, 5, m, s) : bad();
        }

        int which() {
            int bits = 0;
            for (int g = 0; g < now.rail.gloves.size(); g++) {
                int glove = g;
                if (now.seen.stream().allMatch(s -> now.rail.behind(s[0]).gloves.get(glove)[2] == s[1])) {
                    bits += 1 << g;
                }
            }
            return bits;
        }

        int tell() {
            int which = which();
            if (which == 0) {
                return -1;
            }
            int best = -1;
            int fewest = 99;
            for (int m = 0; m <= 20; m++) {
                Rail then = now.rail.behind(m);
                int most = 0;
                for (int s = 0; s <= 23; s++) {
                    int many = 0;
                    for (int g = 0; g < then.gloves.size(); g++) {
                        many += (which >> g & 1) == 1 && then.gloves.get(g)[2] == s ? 1 : 0;
                    }
                    most = Math.max(most, many);
                }
                if (most < fewest) {
                    fewest = most;
                    best = m;
                }
            }
            return best;
        }

        int note(int g, int h, int w, int x) {
            boolean fits = glove(g) && in(h, 0, 99) && in(w, 0, 4) && in(x, 0, 20);
            return fits ? told(now.notes, 6, g, h, w, x) : bad();
        }

        int mark(int k, int h, int n, int x) {
            boolean fits = crossing(k) && in(h, 0, 99) && in(n, 1, 7) && in(x, 0, 20);
            return fits ? told(now.marks, 6, k, h, n, x) : bad();
        }

        int forget(int what) {
            if (!in(what, 0, 2)) {
                return bad();
            }
            List<int[]> list = what == 0 ? now.seen : what == 1 ? now.notes : now.marks;
            int were = list.size();
            list.clear();
            return were;
        }

        private static List<IntBinaryOperator> fitting(IntBinaryOperator[] kinds, List<int[]> told, int number) {
            List<IntBinaryOperator> fit = new ArrayList<>(List.of(kinds));
            told.stream().filter(t -> t[0] == number).forEach(t -> fit.removeIf(k -> k.applyAsInt(t[1], t[2]) != t[3]));
            return fit;
        }

        private static int bits(IntBinaryOperator[] kinds, List<IntBinaryOperator> fit) {
            int bits = 0;
            for (int i = 0; i < 6; i++) {
                bits += fit.contains(kinds[i]) ? 1 << i : 0;
            }
            return bits;
        }

        private static int parts(List<IntBinaryOperator> fit, int hours, int least, int most) {
            int best = -1;
            int fewest = 99;
            for (int h = 0; h < hours && !fit.isEmpty(); h++) {
                for (int v = least; v <= most; v++) {
                    int worst = 0;
                    for (IntBinaryOperator a : fit) {
                        int alike = 0;
                        for (IntBinaryOperator b : fit) {
                            alike += a.applyAsInt(h, v) == b.applyAsInt(h, v) ? 1 : 0;
                        }
                        worst = Math.max(worst, alike);
                    }
                    if (worst < fewest) {
                        fewest = worst;
                        best = 10 * h + v;
                    }
                }
            }
            return best;
        }

        int is(int g) {
            return glove(g) ? bits(Rail.GLOVES, fitting(Rail.GLOVES, now.notes, g)) : bad();
        }

        int look(int g) {
            return glove(g) ? parts(fitting(Rail.GLOVES, now.notes, g), 10, 0, 4) : bad();
        }

        int kinds(int k) {
            return crossing(k) ? bits(Rail.CROSSINGS, fitting(Rail.CROSSINGS, now.marks, k)) : bad();
        }

        int ask(int k) {
            return crossing(k) ? parts(fitting(Rail.CROSSINGS, now.marks, k), 24, 1, 7) : bad();
        }

        int lady(int g, int k) {
            if (!glove(g) || k < -1) {
                return refuse(0, -10);
            }
            int[][] she = new int[10][10];
            int[][] he = new int[10][10];
            for (int i = 0; i < 10; i++) {
                boolean there = false;
                for (int m = 0; m <= 30; m++) {
                    there |= now.rail.behind(m).gloves.get(g)[2] == i;
                }
                for (int j = 0; j < 10; j++) {
                    she[i][j] = (there ? 5 : 0) - i / 3 - (i == j ? 3 : 0);
                    he[i][j] = (i == j ? 3 : 0) - j / 3;
                }
            }
            List<Integer> rest = new ArrayList<>();
            for (int i = 0; i < 10; i++) {
                for (int j = 0; j < 10; j++) {
                    boolean rests = true;
                    for (int o = 0; o < 10; o++) {
                        rests &= she[o][j] <= she[i][j] && he[i][o] <= he[i][j];
                    }
                    if (rests) {
                        rest.add(10 * i + j);
                    }
                }
            }
            return k == -1 ? rest.size() : k < rest.size() ? rest.get(k) : -5;
        }

        int rain(int c) {
            if (!in(c, 0, 10)) {
                return bad();
            }
            above = 0;
            for (int g = 0; g < now.rail.gloves.size(); g++) {
                int tenths = c * goes(g, now.rail.hour, 4) + (10 - c) * goes(g, now.rail.hour, 0);
                above += waits(g) ? 0 : tenths;
            }
            below = 10;
            for (int d = 10; d > 1; d--) {
                while (above % d == 0 && below % d == 0) {
                    above /= d;
                    below /= d;
                }
            }
            return 1;
        }

        int winters(int seed, int n) {
            if (!in(seed, 0, 999999) || !in(n, 0, 60)) {
                return bad();
            }
            Rail then = now.rail.copied();
            java.math.BigInteger x = java.math.BigInteger.valueOf(seed);
            for (int i = 0; i < n; i++) {
                x = x.multiply(java.math.BigInteger.valueOf(1103515245)).add(java.math.BigInteger.valueOf(12345))
                        .mod(java.math.BigInteger.valueOf(2147483648L));
                int k = x.divide(java.math.BigInteger.valueOf(65536)).intValue() % 4;
                if (k < then.crossings.size()) {
                    then.crossings.get(k)[2] = 1 - then.crossings.get(k)[2];
                }
                then.hourGoesBy();
            }
            return then.overs();
        }

        int part(int what) {
            return what == 0 ? above : what == 1 ? below : bad();
        }

        int image(int i) {
            if (!in(i, 0, 1)) {
                return bad();
            }
            images[i] = now.copied();
            return 1;
        }

        int from(int i) {
            if (!in(i, 0, 1)) {
                return bad();
            }
            if (images[i] == null) {
                return refuse(1, -3);
            }
            now = images[i].copied();
            return 1;
        }

        int status(int what) {
            return in(what, 0, 2) ? status[what] : refuse(0, -1);
        }

        int count(int what) {
            Rail rail = now.rail;
            int waiting = rail.crossings.stream().mapToInt(rail::waiting).sum();
            int shut = rail.crossings.stream().mapToInt(c -> c[2]).sum();
            int[] counts = {rail.gloves.size(), rail.crossings.size(), rail.hour, rail.overs(), waiting, shut,
                now.seen.size(), now.notes.size(), now.marks.size(), now.past.size(), text.length()};
            return in(what, 0, 10) ? counts[what] : bad();
        }

        long digest() {
            List<Integer> values = new ArrayList<>();
            for (int what = 0; what <= 10; what++) {
                values.add(count(what));
            }
            List<int[]> rows = new ArrayList<>();
            rows.add(now.rail.wets);
            rows.addAll(now.rail.gloves);
            rows.addAll(now.rail.crossings);
            rows.addAll(now.seen);
            rows.addAll(now.notes);
            rows.addAll(now.marks);
            rows.add(new int[] {above, below});
            for (int[] row : rows) {
                for (int v : row) {
                    values.add(v);
                }
            }
            long h = 1619;
            for (int v : values) {
                h = 31 * h + v;
            }
            return h;
        }
    }

    /** Reads a text token by token, each held against what may stand there. */
    private static final class Text {
        private static final Pattern TOKEN = Pattern.compile(" *(?:([a-z]+)|([0-9]+)|(;)|([^ ]))", Pattern.DOTALL);
        private final String text;
        private final Matcher matcher;
        private boolean more;
        final Rail rail = new Rail();

        Text(String text) {
            this.text = text;
            this.matcher = TOKEN.matcher(text);
            next();
        }

        private void next() {
            more = matcher.find();
        }

        private int fault() {
            int place = text.length();
            for (int group = 1; more && group <= 4; group++) {
                place = matcher.group(group) != null ? matcher.start(group) : place;
            }
            return -10 - place;
        }

        private boolean takes(String token) {
            boolean stands = more && (token.equals(matcher.group(1)) || token.equals(matcher.group(3)));
            if (stands) {
                next();
            }
            return stands;
        }

        private boolean isNumber(int least, int most) {
            String figures = more ? matcher.group(2) : null;
            return figures != null && figures.length() < 3 && Model.in(Integer.parseInt(figures), least, most);
        }

        private int number(int least, int most) {
            if (!isNumber(least, most)) {
                return -1;
            }
            int value = Integer.parseInt(matcher.group(2));
            next();
            return value;
        }

        int read() {
            if (!takes("street") || !takes(";")) {
                return fault();
            }
            int items = 1;
            while (more) {
                if (!item() || !takes(";")) {
                    return fault();
                }
                items++;
            }
            // What is left may be blanks alone.
            return items;
        }

        private boolean item() {
            if (takes("wet")) {
                int h = 0;
                while (h < 6 && isNumber(0, 4)) {
                    rail.wets[h++] = number(0, 4);
                }
                return h > 0;
            }
            if (rail.gloves.size() < 7 && takes("glove")) {
                int kind = number(0, 5);
                int mark = kind < 0 ? -1 : number(1, 9);
                int s = mark < 0 ? -1 : number(0, 23);
                rail.gloves.add(new int[] {kind, mark, s});
                return s >= 0;
            }
            if (rail.crossings.size() < 3 && takes("crossing")) {
                int kind = number(0, 5);
                if (kind < 0 || !isNumber(0, 22) || rail.crossingAt(Integer.parseInt(matcher.group(2))) != null) {
                    return false;
                }
                rail.crossings.add(new int[] {kind, number(0, 22), 0});
                return true;
            }
            if (takes("shut")) {
                int k = number(0, rail.crossings.size() - 1);
                if (k >= 0) {
                    rail.crossings.get(k)[2] ^= 1;
                }
                return k >= 0;
            }
            if (takes("hours")) {
                int n = number(1, 99);
                for (int i = 0; i < n; i++) {
                    rail.hourGoesBy();
                }
                return n > 0;
            }
            return false;
        }
    }
}
