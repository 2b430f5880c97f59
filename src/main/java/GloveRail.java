/** A railing of spikes, gloves that go along it by themselves, and crossings that let so many over. */
public final class GloveRail {
    public static final int NONE = -1, BAD = -2, NO = -3, FULL = -4;

    // Where -1 to -4 are answers of their own, BAD is told as -10; a FAULT is taken from it.
    private static final int TEN = -10;
    private static final int NOT_SO_MANY = -5;
    private static final int LAST_HOUR = 9999;
    private static final int MOST_HOURS = 60;
    private static final int STANDS = 10;
    private static final int COUNTS = 11;

    private final Scene now = new Scene();
    private final Scene firstImage = new Scene();
    private final Scene secondImage = new Scene();
    private final Foresight foresight = new Foresight();
    private final Pairing pairing = new Pairing();
    private final Parting parting = new Parting();
    private final Reader reader = new Reader();
    private int imagesKept;
    private int above = 0;
    private int below = 1;
    private int bads;
    private int noes;
    private int fulls;

    public GloveRail() {
    }

    // ---- a street

    public int street() {
        int gloves = now.street.gloves;
        now.empty();
        return gloves;
    }

    public int wet(int h, int w) {
        if (!within(h, 0, Street.WETS - 1) || !within(w, 0, Street.MOST_WET)) {
            return bad();
        }
        int before = now.street.wets[h];
        now.street.wets[h] = w;
        now.past.size = 0;
        return before;
    }

    public int glove(int kind, int mark, int s) {
        if (!isKind(kind) || !within(mark, 1, Street.MOST_MARK) || !within(s, 0, Street.OVER)) {
            return bad();
        }
        if (now.street.gloves >= Street.GLOVES) {
            return full();
        }
        now.past.size = 0;
        return now.street.addGlove(kind, mark, s);
    }

    public int crossing(int kind, int s) {
        if (!isKind(kind) || !within(s, 0, Street.OVER - 1) || now.street.hasCrossing(s)) {
            return bad();
        }
        if (now.street.crossings >= Street.CROSSINGS) {
            return full();
        }
        now.past.size = 0;
        return now.street.addCrossing(kind, s);
    }

    public int type(int c) {
        if (!within(c, 0, Tokens.LAST_BYTE)) {
            return bad();
        }
        if (reader.tokens.length >= Tokens.MOST) {
            return full();
        }
        reader.tokens.append(c);
        return reader.tokens.length;
    }

    public int clear() {
        int length = reader.tokens.length;
        reader.tokens.length = 0;
        return length;
    }

    public int read() {
        int items = reader.readStreet();
        if (items < 0) {
            return items;
        }
        now.empty();
        now.street.copy(reader.draft);
        return items;
    }

    // ---- hours

    public int hours(int n) {
        if (!within(n, 1, MOST_HOURS)) {
            return bad();
        }
        now.past.keep(now.street);
        now.street.pass(Math.min(n, LAST_HOUR - now.street.hour));
        return now.street.over();
    }

    public int shuts(int k) {
        if (!isCrossing(k)) {
            return bad();
        }
        now.past.keep(now.street);
        now.street.turn(k);
        return now.street.shutBit(k);
    }

    public int undo() {
        if (now.past.size == 0) {
            return no();
        }
        now.past.bringBack(now.street);
        return now.street.hour;
    }

    public int of(int g, int what) {
        if (!isGlove(g)) {
            return bad();
        }
        Street street = now.street;
        switch (what) {
            case 0: return street.kinds[g];
            case 1: return street.marks[g];
            case 2: return street.spikes[g];
            case 3: return street.waits(g) ? 1 : 0;
            case 4: return street.goesNow(g);
            default: return bad();
        }
    }

    public int about(int k, int what) {
        if (!isCrossing(k)) {
            return bad();
        }
        Street street = now.street;
        switch (what) {
            case 0: return street.crossingKinds[k];
            case 1: return street.crossingSpikes[k];
            case 2: return street.shutBit(k);
            case 3: return street.waitingBehind(k);
            case 4: return street.letsNow(k);
            default: return bad();
        }
    }

    // ---- where and when

    public int where(int g, int m) {
        if (!isGlove(g) || !within(m, 0, MOST_HOURS)) {
            return bad();
        }
        return foresight.spikeThen(now.street, g, m);
    }

    public int when(int g) {
        if (g == NONE) {
            return foresight.hoursTillAllOver(now.street);
        }
        return isGlove(g) ? foresight.hoursTillOver(now.street, g) : badAsTen();
    }

    public int pairs(int g) {
        if (g != NONE && !isGlove(g)) {
            return badAsTen();
        }
        pairing.countAll(now.street);
        return g == NONE ? pairing.most() : pairing.partner(now.street, g);
    }

    public int heap(int what) {
        if (!within(what, 0, 2)) {
            return bad();
        }
        foresight.findHeap(now.street);
        switch (what) {
            case 0: return foresight.heapSize;
            case 1: return foresight.heapHours;
            default: return foresight.heapSpike;
        }
    }

    public int hold(int m) {
        return within(m, 1, MOST_HOURS) ? foresight.fewestThatHold(now.street, m) : bad();
    }

    public int drop(int kind, int g, int m) {
        if (!isKind(kind) || !isGlove(g) || !within(m, 1, Foresight.NEAR)) {
            return bad();
        }
        return foresight.meetings(now.street, kind, g, m);
    }

    // ---- which it was

    public int seen(int m, int s) {
        if (!within(m, 0, MOST_HOURS) || !within(s, 0, Street.OVER)) {
            return bad();
        }
        return told(now.seen, now.seen.add(m, s, 0, 0));
    }

    public int which() {
        return foresight.seenThere(now.street, now.seen);
    }

    public int tell() {
        return foresight.hoursThatPart(now.street, which(), parting);
    }

    public int note(int g, int h, int w, int x) {
        if (!isGlove(g) || !within(w, 0, Street.MOST_WET) || !isTold(h, x)) {
            return bad();
        }
        return told(now.notes, now.notes.add(g, h, w, x));
    }

    public int mark(int k, int h, int n, int x) {
        if (!isCrossing(k) || !within(n, 1, Street.GLOVES) || !isTold(h, x)) {
            return bad();
        }
        return told(now.marks, now.marks.add(k, h, n, x));
    }

    public int forget(int what) {
        switch (what) {
            case 0: return now.seen.empty();
            case 1: return now.notes.empty();
            case 2: return now.marks.empty();
            default: return bad();
        }
    }

    public int is(int g) {
        return isGlove(g) ? kindsThatFit(now.notes, g, true) : bad();
    }

    public int look(int g) {
        if (!isGlove(g)) {
            return bad();
        }
        return nextLook(kindsThatFit(now.notes, g, true), true);
    }

    public int kinds(int k) {
        return isCrossing(k) ? kindsThatFit(now.marks, k, false) : bad();
    }

    public int ask(int k) {
        if (!isCrossing(k)) {
            return bad();
        }
        return nextLook(kindsThatFit(now.marks, k, false), false);
    }

    public int lady(int g, int k) {
        if (!isGlove(g) || k < NONE) {
            return badAsTen();
        }
        int visited = foresight.visited(now.street, g);
        int found = 0;
        for (int pair = 0; pair < STANDS * STANDS; pair++) {
            if (rests(pair / STANDS, pair % STANDS, visited)) {
                if (found == k) {
                    return pair;
                }
                found++;
            }
        }
        return k == NONE ? found : NOT_SO_MANY;
    }

    public int rain(int c) {
        if (!within(c, 0, 10)) {
            return bad();
        }
        int dry = now.street.goneInAll(0);
        int wet = now.street.goneInAll(Street.MOST_WET);
        keepFraction(c * wet + (10 - c) * dry, 10);
        return 1;
    }

    public int winters(int seed, int n) {
        if (!within(seed, 0, 999999) || !within(n, 0, MOST_HOURS)) {
            return bad();
        }
        return foresight.overBehindWinter(now.street, seed, n);
    }

    // ---- what there is

    public long part(int what) {
        switch (what) {
            case 0: return above;
            case 1: return below;
            default: return bad();
        }
    }

    public int image(int i) {
        if (!within(i, 0, 1)) {
            return bad();
        }
        imageOf(i).copy(now);
        imagesKept |= 1 << i;
        return 1;
    }

    public int from(int i) {
        if (!within(i, 0, 1)) {
            return bad();
        }
        if ((imagesKept >> i & 1) == 0) {
            return no();
        }
        now.copy(imageOf(i));
        return 1;
    }

    public int status(int what) {
        switch (what) {
            case 0: return bads;
            case 1: return noes;
            case 2: return fulls;
            default:
                bads++;
                return -1;
        }
    }

    public int count(int what) {
        return within(what, 0, COUNTS - 1) ? counted(what) : bad();
    }

    public long digest() {
        long h = 1619;
        for (int what = 0; what < COUNTS; what++) {
            h = 31 * h + counted(what);
        }
        h = now.street.folded(h);
        h = now.seen.folded(h);
        h = now.notes.folded(h);
        h = now.marks.folded(h);
        h = 31 * h + above;
        return 31 * h + below;
    }

    // ---- what the calls share

    private static boolean within(int x, int least, int most) {
        return x >= least && x <= most;
    }

    private static boolean isKind(int kind) {
        return within(kind, 0, Kinds.MANY - 1);
    }

    /** Of a NOTE or a MARK: the HOUR it tells of and the number that was counted. */
    private static boolean isTold(int h, int x) {
        return within(h, 0, 99) && within(x, 0, 20);
    }

    private boolean isGlove(int g) {
        return within(g, 0, now.street.gloves - 1);
    }

    private boolean isCrossing(int k) {
        return within(k, 0, now.street.crossings - 1);
    }

    private Scene imageOf(int i) {
        return i == 0 ? firstImage : secondImage;
    }

    private int bad() {
        bads++;
        return BAD;
    }

    private int badAsTen() {
        bads++;
        return TEN;
    }

    private int no() {
        noes++;
        return NO;
    }

    private int full() {
        fulls++;
        return FULL;
    }

    private int told(Rows rows, boolean added) {
        return added ? rows.size : full();
    }

    private int counted(int what) {
        Street street = now.street;
        switch (what) {
            case 0: return street.gloves;
            case 1: return street.crossings;
            case 2: return street.hour;
            case 3: return street.over();
            case 4: return street.waitingInAll();
            case 5: return Integer.bitCount(street.shut);
            case 6: return now.seen.size;
            case 7: return now.notes.size;
            case 8: return now.marks.size;
            case 9: return now.past.size;
            default: return reader.tokens.length;
        }
    }

    private static int kindsThatFit(Rows rows, int number, boolean ofGloves) {
        int bits = 0;
        for (int kind = 0; kind < Kinds.MANY; kind++) {
            boolean fits = true;
            for (int r = 0; r < rows.size; r++) {
                int says = Kinds.says(ofGloves, kind, rows.cell(r, 1), rows.cell(r, 2));
                fits = fits && (rows.cell(r, 0) != number || says == rows.cell(r, 3));
            }
            if (fits) {
                bits |= 1 << kind;
            }
        }
        return bits;
    }

    /** LOOK at a GLOVE by HOUR and WET, ASK of a CROSSING by HOUR and how many wait. */
    private int nextLook(int kinds, boolean ofGloves) {
        int hours = ofGloves ? 10 : 24;
        int least = ofGloves ? 0 : 1;
        int most = ofGloves ? Street.MOST_WET : Street.GLOVES;
        parting.begin();
        for (int h = 0; h < hours; h++) {
            for (int v = least; v <= most; v++) {
                parting.empty();
                for (int kind = 0; kind < Kinds.MANY; kind++) {
                    if ((kinds >> kind & 1) == 1) {
                        parting.add(Kinds.says(ofGloves, kind, h, v));
                    }
                }
                parting.offer(10 * h + v);
            }
        }
        return parting.best;
    }

    private static int ladyGets(int i, int j, int visited) {
        int meets = (visited >> i & 1) == 1 ? 5 : 0;
        return meets - i / 3 - (i == j ? 3 : 0);
    }

    private static int constableGets(int i, int j) {
        return (i == j ? 3 : 0) - j / 3;
    }

    private static boolean rests(int i, int j, int visited) {
        for (int other = 0; other < STANDS; other++) {
            if (ladyGets(other, j, visited) > ladyGets(i, j, visited)
                    || constableGets(i, other) > constableGets(i, j)) {
                return false;
            }
        }
        return true;
    }

    private void keepFraction(int top, int bottom) {
        int a = top;
        int b = bottom;
        // Euclid's remainders of numbers this small are down to 0 long before 64.
        for (int i = 0; i < 64 && b != 0; i++) {
            int left = a % b;
            a = b;
            b = left;
        }
        if (a > 0) {
            above = top / a;
            below = bottom / a;
        }
    }

    /** What each KIND says; each is told from the one that it stands under. */
    private static final class Kinds {
        static final int MANY = 6;
        private static final int LEATHER = 1, MITTEN = 2, KID = 3, ODD = 4, SATIN = 5;
        private static final int BUSY = 1, WIDE = 2, POLICED = 3, NIGHT = 4, LOCKED = 5;

        static int says(boolean ofGloves, int kind, int h, int v) {
            return ofGloves ? spikesGone(kind, h, v) : letOver(kind, h, v);
        }

        static int spikesGone(int kind, int h, int w) {
            int wool = 1;
            int leather = w == 0 ? wool + 1 : wool;
            int kid = h % 2 == 0 ? 2 * leather : leather;
            switch (kind) {
                case LEATHER: return leather;
                case MITTEN: return w >= 3 ? 0 : wool;
                case KID: return kid;
                case ODD: return h % 5 == 0 ? wool + 3 : wool;
                case SATIN: return kid > w ? kid - w : 0;
                default: return wool;
            }
        }

        static int letOver(int kind, int h, int n) {
            int plain = h % 2 == 0 ? 2 : 0;
            int busy = plain > 0 ? plain - 1 : 0;
            int wide = plain + n / 2;
            switch (kind) {
                case BUSY: return busy;
                case WIDE: return wide;
                case POLICED: return n >= 4 ? busy + 1 : busy;
                case NIGHT: return h % 8 >= 6 ? n : plain;
                case LOCKED: return h % 3 == 0 ? 0 : wide;
                default: return plain;
            }
        }
    }

    /** The railing with its WETS, GLOVES and CROSSINGS at one HOUR. */
    private static final class Street {
        static final int OVER = 23;
        static final int WETS = 6, MOST_WET = 4;
        static final int GLOVES = 7, MOST_MARK = 9;
        static final int CROSSINGS = 3;

        final int[] wets = new int[WETS];
        // One more than may come, since DROP asks what one more would do.
        final int[] kinds = new int[GLOVES + 1];
        final int[] marks = new int[GLOVES + 1];
        final int[] spikes = new int[GLOVES + 1];
        final int[] crossingKinds = new int[CROSSINGS];
        final int[] crossingSpikes = new int[CROSSINGS];
        // By SPIKE: 1 more than the CROSSING's number, so that a new row has none.
        final int[] behind = new int[OVER + 1];
        final int[] passing = new int[CROSSINGS];
        int gloves;
        int crossings;
        int shut;
        int hour;

        void empty() {
            for (int h = 0; h < WETS; h++) {
                wets[h] = 0;
            }
            for (int s = 0; s <= OVER; s++) {
                behind[s] = 0;
            }
            gloves = 0;
            crossings = 0;
            shut = 0;
            hour = 0;
        }

        void copy(Street other) {
            System.arraycopy(other.wets, 0, wets, 0, WETS);
            System.arraycopy(other.kinds, 0, kinds, 0, GLOVES);
            System.arraycopy(other.marks, 0, marks, 0, GLOVES);
            System.arraycopy(other.spikes, 0, spikes, 0, GLOVES);
            System.arraycopy(other.crossingKinds, 0, crossingKinds, 0, CROSSINGS);
            System.arraycopy(other.crossingSpikes, 0, crossingSpikes, 0, CROSSINGS);
            System.arraycopy(other.behind, 0, behind, 0, OVER + 1);
            gloves = other.gloves;
            crossings = other.crossings;
            shut = other.shut;
            hour = other.hour;
        }

        int addGlove(int kind, int mark, int s) {
            if (gloves > GLOVES) {
                return FULL;
            }
            kinds[gloves] = kind;
            marks[gloves] = mark;
            spikes[gloves] = s;
            gloves++;
            return gloves - 1;
        }

        int addCrossing(int kind, int s) {
            if (crossings >= CROSSINGS) {
                return FULL;
            }
            crossingKinds[crossings] = kind;
            crossingSpikes[crossings] = s;
            crossings++;
            behind[s] = crossings;
            return crossings - 1;
        }

        boolean hasCrossing(int s) {
            return within(s, 0, OVER) && behind[s] != 0;
        }

        void turn(int k) {
            shut ^= 1 << k;
        }

        int shutBit(int k) {
            return shut >> k & 1;
        }

        boolean waits(int g) {
            return behind[spikes[g]] != 0;
        }

        int waitingBehind(int k) {
            int many = 0;
            for (int g = 0; g < gloves; g++) {
                if (spikes[g] == crossingSpikes[k]) {
                    many++;
                }
            }
            return many;
        }

        int waitingInAll() {
            int many = 0;
            for (int k = 0; k < crossings; k++) {
                many += waitingBehind(k);
            }
            return many;
        }

        int over() {
            int many = 0;
            for (int g = 0; g < gloves; g++) {
                if (spikes[g] == OVER) {
                    many++;
                }
            }
            return many;
        }

        int goesNow(int g) {
            return Kinds.spikesGone(kinds[g], hour, wets[hour % WETS]);
        }

        int letsNow(int k) {
            int n = waitingBehind(k);
            return n == 0 ? 0 : Kinds.letOver(crossingKinds[k], hour, n);
        }

        int goneInAll(int w) {
            int many = 0;
            for (int g = 0; g < gloves; g++) {
                if (!waits(g)) {
                    many += Kinds.spikesGone(kinds[g], hour, w);
                }
            }
            return many;
        }

        void pass(int n) {
            for (int i = 0; i < n; i++) {
                passHour();
            }
        }

        void passHour() {
            // Counted ahead of any step: who comes to a CROSSING within the HOUR waits for the next.
            for (int k = 0; k < crossings; k++) {
                passing[k] = shutBit(k) == 1 ? 0 : letsNow(k);
            }
            for (int g = 0; g < gloves; g++) {
                int k = behind[spikes[g]] - 1;
                if (k == NONE) {
                    walk(g, goesNow(g));
                } else if (passing[k] > 0) {
                    passing[k]--;
                    spikes[g]++;
                }
            }
            hour++;
        }

        private void walk(int g, int steps) {
            for (int i = 0; i < steps && spikes[g] < OVER && !waits(g); i++) {
                spikes[g]++;
            }
        }

        long folded(long start) {
            long h = start;
            for (int i = 0; i < WETS; i++) {
                h = 31 * h + wets[i];
            }
            for (int g = 0; g < gloves; g++) {
                h = 31 * h + kinds[g];
                h = 31 * h + marks[g];
                h = 31 * h + spikes[g];
            }
            for (int k = 0; k < crossings; k++) {
                h = 31 * h + crossingKinds[k];
                h = 31 * h + crossingSpikes[k];
                h = 31 * h + shutBit(k);
            }
            return h;
        }
    }

    /** What may be undone: rows of where the GLOVES were, what was SHUT, the HOUR; the newest last. */
    private static final class Past {
        private static final int MOST = 8;
        private static final int SHUT = Street.GLOVES, HOUR = SHUT + 1, WIDTH = HOUR + 1;

        private final int[] cells = new int[MOST * WIDTH];
        int size;

        void copy(Past other) {
            System.arraycopy(other.cells, 0, cells, 0, MOST * WIDTH);
            size = other.size;
        }

        void keep(Street street) {
            if (size >= MOST) {
                System.arraycopy(cells, WIDTH, cells, 0, (MOST - 1) * WIDTH);
                size = MOST - 1;
            }
            int row = size * WIDTH;
            System.arraycopy(street.spikes, 0, cells, row, Street.GLOVES);
            cells[row + SHUT] = street.shut;
            cells[row + HOUR] = street.hour;
            size++;
        }

        void bringBack(Street street) {
            if (size <= 0) {
                return;
            }
            size--;
            int row = size * WIDTH;
            System.arraycopy(cells, row, street.spikes, 0, Street.GLOVES);
            street.shut = cells[row + SHUT];
            street.hour = cells[row + HOUR];
        }
    }

    /** What was told, row by row: SEEN ones, NOTES or MARKS. */
    private static final class Rows {
        private static final int MOST = 6, CELLS = 4;

        private final int[] cells = new int[MOST * CELLS];
        private final int most;
        private final int width;
        int size;

        Rows(int most, int width) {
            this.most = Math.min(most, MOST);
            this.width = Math.min(width, CELLS);
        }

        void copy(Rows other) {
            System.arraycopy(other.cells, 0, cells, 0, MOST * CELLS);
            size = other.size;
        }

        int empty() {
            int before = size;
            size = 0;
            return before;
        }

        boolean add(int a, int b, int c, int d) {
            if (size >= most) {
                return false;
            }
            int row = size * CELLS;
            cells[row] = a;
            cells[row + 1] = b;
            cells[row + 2] = c;
            cells[row + 3] = d;
            size++;
            return true;
        }

        int cell(int row, int column) {
            return cells[row * CELLS + column];
        }

        long folded(long start) {
            long h = start;
            for (int r = 0; r < size; r++) {
                for (int c = 0; c < width; c++) {
                    h = 31 * h + cell(r, c);
                }
            }
            return h;
        }
    }

    /** All that an IMAGE keeps. */
    private static final class Scene {
        final Street street = new Street();
        final Past past = new Past();
        final Rows seen = new Rows(5, 2);
        final Rows notes = new Rows(6, 4);
        final Rows marks = new Rows(6, 4);

        void empty() {
            street.empty();
            past.size = 0;
            seen.empty();
            notes.empty();
            marks.empty();
        }

        void copy(Scene other) {
            street.copy(other.street);
            past.copy(other.past);
            seen.copy(other.seen);
            notes.copy(other.notes);
            marks.copy(other.marks);
        }
    }

    /** Looks for the choice by which the most that are alike are fewest; the first of like ones. */
    private static final class Parting {
        private final int[] alike = new int[Street.OVER + 1];
        private int most;
        private int fewest;
        int best;

        void begin() {
            best = NONE;
            fewest = alike.length;
        }

        void empty() {
            for (int v = 0; v < alike.length; v++) {
                alike[v] = 0;
            }
            most = 0;
        }

        void add(int v) {
            if (v >= 0 && v < alike.length) {
                alike[v]++;
                most = Math.max(most, alike[v]);
            }
        }

        void offer(int choice) {
            // With nothing to part no choice is any.
            if (most > 0 && most < fewest) {
                fewest = most;
                best = choice;
            }
        }
    }

    /** What will be: it walks a copy of the street, so that nothing is changed by asking. */
    private static final class Foresight {
        static final int NEAR = 30;
        private static final int TELLS = 20;

        private final Street ahead = new Street();
        int heapSize;
        int heapHours;
        int heapSpike;

        int spikeThen(Street street, int g, int m) {
            ahead.copy(street);
            ahead.pass(m);
            return ahead.spikes[g];
        }

        int hoursTillOver(Street street, int g) {
            ahead.copy(street);
            for (int m = 0; m <= MOST_HOURS; m++) {
                if (ahead.spikes[g] == Street.OVER) {
                    return m;
                }
                ahead.passHour();
            }
            return NONE;
        }

        int hoursTillAllOver(Street street) {
            ahead.copy(street);
            for (int m = 0; m <= MOST_HOURS; m++) {
                if (ahead.over() == ahead.gloves) {
                    return m;
                }
                ahead.passHour();
            }
            return NONE;
        }

        void findHeap(Street street) {
            heapSize = 0;
            heapHours = 0;
            heapSpike = NONE;
            ahead.copy(street);
            for (int m = 0; m <= NEAR; m++) {
                for (int k = 0; k < ahead.crossings; k++) {
                    takeGreaterHeap(ahead.waitingBehind(k), m, ahead.crossingSpikes[k]);
                }
                ahead.passHour();
            }
        }

        private void takeGreaterHeap(int size, int m, int s) {
            // CROSSINGS come in any order, so that a later one may stand behind a lesser SPIKE.
            boolean lesserSpike = size == heapSize && m == heapHours && s < heapSpike;
            if (size > heapSize || lesserSpike) {
                heapSize = size;
                heapHours = m;
                heapSpike = s;
            }
        }

        int fewestThatHold(Street street, int m) {
            int best = NONE;
            int fewest = Street.CROSSINGS + 1;
            for (int bits = 0; bits < 1 << street.crossings; bits++) {
                int many = Integer.bitCount(bits);
                if (many < fewest && holds(street, bits, m)) {
                    fewest = many;
                    best = bits;
                }
            }
            return best;
        }

        private boolean holds(Street street, int shut, int m) {
            ahead.copy(street);
            ahead.shut = shut;
            ahead.pass(m);
            return ahead.over() == street.over();
        }

        int meetings(Street street, int kind, int g, int m) {
            int bits = 0;
            for (int s = 0; s < Street.OVER; s++) {
                ahead.copy(street);
                ahead.addGlove(kind, 1, s);
                ahead.pass(m);
                if (ahead.spikes[ahead.gloves - 1] == ahead.spikes[g]) {
                    bits |= 1 << s;
                }
            }
            return bits;
        }

        int seenThere(Street street, Rows seen) {
            int bits = (1 << street.gloves) - 1;
            ahead.copy(street);
            for (int m = 0; m <= MOST_HOURS; m++) {
                for (int r = 0; r < seen.size; r++) {
                    if (seen.cell(r, 0) == m) {
                        bits &= thoseAt(seen.cell(r, 1));
                    }
                }
                ahead.passHour();
            }
            return bits;
        }

        private int thoseAt(int s) {
            int bits = 0;
            for (int g = 0; g < ahead.gloves; g++) {
                if (ahead.spikes[g] == s) {
                    bits |= 1 << g;
                }
            }
            return bits;
        }

        int hoursThatPart(Street street, int gloves, Parting parting) {
            ahead.copy(street);
            parting.begin();
            for (int m = 0; m <= TELLS; m++) {
                parting.empty();
                for (int g = 0; g < ahead.gloves; g++) {
                    if ((gloves >> g & 1) == 1) {
                        parting.add(ahead.spikes[g]);
                    }
                }
                parting.offer(m);
                ahead.passHour();
            }
            return parting.best;
        }

        int visited(Street street, int g) {
            int bits = 0;
            ahead.copy(street);
            for (int m = 0; m <= NEAR; m++) {
                bits |= 1 << ahead.spikes[g];
                ahead.passHour();
            }
            return bits;
        }

        int overBehindWinter(Street street, int seed, int n) {
            ahead.copy(street);
            long x = seed;
            for (int i = 0; i < n; i++) {
                x = (x * 1103515245L + 12345L) % 2147483648L;
                int k = (int) (x / 65536L % 4L);
                if (k < ahead.crossings) {
                    ahead.turn(k);
                }
                ahead.passHour();
            }
            return ahead.over();
        }
    }

    /** The most pairs of every set of GLOVES, so that the first way to pair them is found without trying all. */
    private static final class Pairing {
        private final int[] mostOf = new int[1 << Street.GLOVES];
        private int all;

        void countAll(Street street) {
            all = (1 << street.gloves) - 1;
            mostOf[0] = 0;
            for (int set = 1; set <= all; set++) {
                int g = Integer.numberOfTrailingZeros(set);
                int rest = set & ~(1 << g);
                mostOf[set] = mostOf[rest];
                for (int other = g + 1; other < street.gloves; other++) {
                    if (fit(street, rest, g, other)) {
                        mostOf[set] = Math.max(mostOf[set], 1 + mostOf[rest & ~(1 << other)]);
                    }
                }
            }
        }

        int most() {
            return mostOf[all];
        }

        int partner(Street street, int wanted) {
            int set = all;
            for (int g = 0; g < street.gloves; g++) {
                if ((set >> g & 1) == 1) {
                    int with = firstPartner(street, set, g);
                    if (g == wanted) {
                        return with;
                    }
                    if (with == wanted) {
                        return g;
                    }
                    set = without(set, g, with);
                }
            }
            return NONE;
        }

        private int firstPartner(Street street, int set, int g) {
            int rest = set & ~(1 << g);
            if (mostOf[rest] == mostOf[set]) {
                return NONE;
            }
            for (int other = g + 1; other < street.gloves; other++) {
                if (fit(street, rest, g, other) && 1 + mostOf[rest & ~(1 << other)] == mostOf[set]) {
                    return other;
                }
            }
            return NONE;
        }

        private static int without(int set, int g, int with) {
            int rest = set & ~(1 << g);
            return with == NONE ? rest : rest & ~(1 << with);
        }

        private static boolean fit(Street street, int set, int g, int other) {
            return (set >> other & 1) == 1
                    && street.kinds[g] == street.kinds[other]
                    && Math.abs(street.marks[g] - street.marks[other]) <= 1;
        }
    }

    /** THE TEXT and the TOKEN of it that comes next. */
    private static final class Tokens {
        static final int MOST = 150, LAST_BYTE = 127;
        static final int NOTHING = 0, WORD = 1, NUMBER = 2, STOP = 3, OTHER = 4;

        private final int[] bytes = new int[MOST];
        int length;
        int token;
        int start;
        int value;
        private int end;

        void append(int c) {
            if (length < MOST) {
                bytes[length] = c;
                length++;
            }
        }

        void begin() {
            end = 0;
            advance();
        }

        void advance() {
            start = end;
            while (start < length && bytes[start] == ' ') {
                start++;
            }
            end = start;
            value = NONE;
            token = start < length ? kindOf(bytes[start]) : NOTHING;
            if (token == STOP || token == OTHER) {
                end++;
                return;
            }
            while (end < length && kindOf(bytes[end]) == token) {
                end++;
            }
            // A run of three figures or more has no value, so that it can stand nowhere.
            if (token == NUMBER && end - start <= 2) {
                int last = bytes[end - 1] - '0';
                value = end - start == 2 ? 10 * (bytes[start] - '0') + last : last;
            }
        }

        private static int kindOf(int c) {
            if (c >= 'a' && c <= 'z') {
                return WORD;
            }
            if (c >= '0' && c <= '9') {
                return NUMBER;
            }
            return c == ';' ? STOP : OTHER;
        }

        boolean isWord(String word) {
            if (token != WORD || end - start != word.length()) {
                return false;
            }
            for (int i = 0; i < word.length(); i++) {
                if (bytes[start + i] != word.charAt(i)) {
                    return false;
                }
            }
            return true;
        }
    }

    /** Reads THE TEXT into a street of its own; where it stops short, the TOKEN that it stands at is the FAULT. */
    private static final class Reader {
        final Tokens tokens = new Tokens();
        final Street draft = new Street();

        int readStreet() {
            draft.empty();
            tokens.begin();
            if (!tokens.isWord("street")) {
                return fault();
            }
            tokens.advance();
            if (!takeStop()) {
                return fault();
            }
            int items = 1;
            // Every ITEM has a byte at least, so that there are no more ITEMS than bytes.
            while (items <= Tokens.MOST && tokens.token != Tokens.NOTHING) {
                if (!readItem() || !takeStop()) {
                    return fault();
                }
                items++;
            }
            return items;
        }

        private int fault() {
            return TEN - tokens.start;
        }

        private boolean readItem() {
            if (tokens.isWord("wet")) {
                return readWets();
            }
            if (tokens.isWord("glove")) {
                return readGlove();
            }
            if (tokens.isWord("crossing")) {
                return readCrossing();
            }
            if (tokens.isWord("shut")) {
                return readShut();
            }
            return tokens.isWord("hours") && readHours();
        }

        private boolean takeStop() {
            if (tokens.token != Tokens.STOP) {
                return false;
            }
            tokens.advance();
            return true;
        }

        /** The number that stands there, or NONE: then it stays there. */
        private int takeNumber(int least, int most) {
            int value = tokens.value;
            if (!within(value, least, most)) {
                return NONE;
            }
            tokens.advance();
            return value;
        }

        private boolean readWets() {
            tokens.advance();
            int h = 0;
            do {
                int w = takeNumber(0, Street.MOST_WET);
                if (w == NONE) {
                    return false;
                }
                draft.wets[h] = w;
                h++;
            } while (h < Street.WETS && tokens.token == Tokens.NUMBER);
            return true;
        }

        private boolean readGlove() {
            if (draft.gloves >= Street.GLOVES) {
                return false;
            }
            tokens.advance();
            int kind = takeNumber(0, Kinds.MANY - 1);
            int mark = kind == NONE ? NONE : takeNumber(1, Street.MOST_MARK);
            int s = mark == NONE ? NONE : takeNumber(0, Street.OVER);
            return s != NONE && draft.addGlove(kind, mark, s) >= 0;
        }

        private boolean readCrossing() {
            if (draft.crossings >= Street.CROSSINGS) {
                return false;
            }
            tokens.advance();
            int kind = takeNumber(0, Kinds.MANY - 1);
            if (kind == NONE || draft.hasCrossing(tokens.value)) {
                return false;
            }
            int s = takeNumber(0, Street.OVER - 1);
            return s != NONE && draft.addCrossing(kind, s) >= 0;
        }

        private boolean readShut() {
            tokens.advance();
            int k = takeNumber(0, draft.crossings - 1);
            if (k == NONE) {
                return false;
            }
            draft.turn(k);
            return true;
        }

        private boolean readHours() {
            tokens.advance();
            int n = takeNumber(1, 99);
            if (n == NONE) {
                return false;
            }
            for (int i = 0; i < n; i++) {
                draft.passHour();
            }
            return true;
        }
    }
}
