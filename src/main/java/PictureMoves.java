import java.util.Arrays;

/** Pictures of dots that are moved over one another, as ../shared/DOC.md promises. */
public final class PictureMoves {
    public static final int NONE = -1, BAD = -2, NO = -3, FULL = -4;

    private static final int PICTURES = 3, WIDE = 32, HIGH = 24;
    private static final int PATTERN_ROWS = 8, MOST_BITS = 255;
    private static final int MOST_OPENINGS = 4, OPENING_NUMBERS = 4;
    private static final int MOST_STATES = 6;
    private static final int MOST_BYTES = 120, MOST_BYTE = 127, FAULTS_FROM = -10;
    private static final int LEAST_PLACE = -64, MOST_PLACE = 63, MOST_SIZE = 64;
    private static final int LETTERS = 16, LETTER_SIZE = 4;
    private static final int MOST_SEED = 999999, MOST_FOUND = 8, MOST_ROLL = 31;
    private static final int ALL_ONES = -1, LEFTMOST = 1 << 31;
    private static final int DIGEST_START = 2083;

    private final Scene scene;
    private final Past past;
    private final Painter painter;
    private final Whole whole;
    private final Measure measure;
    private final Order order;
    private final OrderText text;
    private int bads;
    private int noes;
    private int fulls;

    /** All rows are made here and used again, so that no call makes an object. */
    public PictureMoves() {
        Scene newScene = new Scene();
        Parts newParts = new Parts();
        scene = newScene;
        past = new Past();
        painter = new Painter(newScene, newParts);
        whole = new Whole(newScene);
        measure = new Measure(newScene, newParts);
        order = new Order();
        text = new OrderText();
    }

    // ---- dots

    public int dot(int t, int x, int y, int v) {
        if (!isPicture(t) || !isInPicture(x, y) || !isWithin(v, 0, 1)) {
            return refusedBad();
        }
        past.keeps(scene);
        int was = scene.dotAt(t, x, y);
        if (was != v) {
            scene.putRow(t, y, scene.rowAt(t, y) ^ dotMask(x));
        }
        return was;
    }

    public int pattern(int y, int bits) {
        if (!isWithin(y, 0, PATTERN_ROWS - 1) || !isWithin(bits, 0, MOST_BITS)) {
            return refusedBad();
        }
        past.keeps(scene);
        int was = scene.patternRows[y];
        scene.patternRows[y] = bits;
        return was;
    }

    public int draw(int t, int seed) {
        if (!isPicture(t) || !isWithin(seed, 0, MOST_SEED)) {
            return refusedBad();
        }
        past.keeps(scene);
        whole.drawn(t, seed);
        return measure.ones(t);
    }

    public int opening(int x, int y, int w, int h) {
        order.begins(Order.OPENING);
        order.with(x).with(y).with(w).with(h);
        if (!order.isAsTold()) {
            return refusedBad();
        }
        if (scene.openingCount >= MOST_OPENINGS) {
            return refusedFull();
        }
        past.keeps(scene);
        painter.performs(order);
        return scene.openingCount;
    }

    public int closes() {
        int were = scene.openingCount;
        past.keeps(scene);
        scene.openingCount = 0;
        return were;
    }

    // ---- moves

    public int move(int s, int x, int y, int w, int h, int t, int toX, int toY, int join) {
        order.begins(Order.MOVE);
        order.with(s).with(x).with(y).with(w).with(h).with(t).with(toX).with(toY).with(join);
        if (!order.isAsTold()) {
            return refusedBad();
        }
        past.keeps(scene);
        return painter.performs(order);
    }

    public int line(int t, int x0, int y0, int x1, int y1, int join) {
        order.begins(Order.LINE);
        order.with(t).with(x0).with(y0).with(x1).with(y1).with(join);
        if (!order.isAsTold()) {
            return refusedBad();
        }
        past.keeps(scene);
        return painter.performs(order);
    }

    public int flood(int t, int x, int y) {
        order.begins(Order.FLOOD);
        order.with(t).with(x).with(y);
        if (!order.isAsTold()) {
            return refusedBad();
        }
        if (!scene.isOpen(x, y)) {
            return refusedNo();
        }
        past.keeps(scene);
        return painter.performs(order);
    }

    public int rectangle(int t, int x, int y, int w, int h, int join) {
        order.begins(Order.RECTANGLE);
        order.with(t).with(x).with(y).with(w).with(h).with(join);
        if (!order.isAsTold()) {
            return refusedBad();
        }
        past.keeps(scene);
        return painter.performs(order);
    }

    public int letter(int t, int n, int x, int y, int join) {
        order.begins(Order.LETTER);
        order.with(t).with(n).with(x).with(y).with(join);
        if (!order.isAsTold()) {
            return refusedBad();
        }
        past.keeps(scene);
        return painter.performs(order);
    }

    // ---- pictures as a whole

    public int joins(int s, int t, int join) {
        if (!isPicture(s) || !isPicture(t) || !isWithin(join, 0, MOST_BITS)) {
            return refusedBad();
        }
        past.keeps(scene);
        return whole.joined(s, t, join);
    }

    public int changes(int t, int way) {
        if (!isPicture(t) || !isWithin(way, Whole.MIRRORED, Whole.EDGE)) {
            return refusedBad();
        }
        past.keeps(scene);
        return whole.changed(t, way);
    }

    public int rolls(int t, int x, int y) {
        if (!isPicture(t) || !isWithin(x, -MOST_ROLL, MOST_ROLL) || !isWithin(y, -MOST_ROLL, MOST_ROLL)) {
            return refusedBad();
        }
        past.keeps(scene);
        return whole.rolled(t, x, y);
    }

    // ---- what they are

    public int at(int t, int x, int y) {
        return isPicture(t) ? scene.dotAt(t, x, y) : refusedBad();
    }

    public int row(int t, int y) {
        if (!isPicture(t) || !isWithin(y, 0, HIGH - 1)) {
            refusedBad();
            return 0;
        }
        return scene.rowAt(t, y);
    }

    public int of(int t, int what) {
        if (!isPicture(t) || !isWithin(what, Measure.ONES, Measure.OPEN_DOTS)) {
            return refusedBad();
        }
        return measure.measured(t, what);
    }

    public int count(int t, int x, int y, int w, int h) {
        if (!isPicture(t) || !isPlace(x) || !isPlace(y) || !isSize(w) || !isSize(h)) {
            return refusedBad();
        }
        return measure.onesWithin(t, x, y, w, h);
    }

    public int unlike(int s, int t) {
        return isPicture(s) && isPicture(t) ? measure.unlikeDots(s, t) : refusedBad();
    }

    public int finds(int s, int x, int y, int w, int h, int t) {
        if (!isPicture(s) || !isPicture(t) || !isWithin(w, 1, MOST_FOUND) || !isWithin(h, 1, MOST_FOUND)) {
            return refusedBad();
        }
        if (!isWithin(x, 0, WIDE - w) || !isWithin(y, 0, HIGH - h)) {
            return refusedBad();
        }
        measure.takesBlock(s, x, y, h);
        return measure.placesOfBlock(t, w, h);
    }

    public int open(int x, int y) {
        if (!isInPicture(x, y)) {
            return refusedBad();
        }
        return scene.isOpen(x, y) ? 1 : 0;
    }

    // ---- texts

    public int type(int c) {
        if (!isWithin(c, 0, MOST_BYTE)) {
            return refusedBad();
        }
        if (text.length >= MOST_BYTES) {
            return refusedFull();
        }
        text.takes(c);
        return text.length;
    }

    public int clear() {
        int had = text.length;
        text.length = 0;
        return had;
    }

    public int does() {
        int fault = text.faultIn(order, scene.openingCount);
        if (fault != NONE) {
            return FAULTS_FROM - fault;
        }
        past.keeps(scene);
        text.restarts();
        int otherwise = 0;
        for (int done = 0; done < MOST_BYTES && !text.isAtEnd(); done++) {
            text.reads(order);
            otherwise += painter.performs(order);
        }
        return otherwise;
    }

    public int back() {
        if (past.size == 0) {
            return refusedNo();
        }
        past.givesBack(scene);
        return past.size;
    }

    public int told(int what) {
        return isWithin(what, 0, 5) ? tally(what) : refusedBad();
    }

    public long digest() {
        long h = DIGEST_START;
        for (int what = 0; what <= 5; what++) {
            h = 31 * h + tally(what);
        }
        return scene.mixedInto(h);
    }

    // ---- help

    private int refusedBad() {
        bads++;
        return BAD;
    }

    private int refusedNo() {
        noes++;
        return NO;
    }

    private int refusedFull() {
        fulls++;
        return FULL;
    }

    private int tally(int what) {
        switch (what) {
            case 0: return bads;
            case 1: return noes;
            case 2: return fulls;
            case 3: return text.length;
            case 4: return scene.openingCount;
            default: return past.size;
        }
    }

    private static boolean isWithin(int number, int least, int greatest) {
        return number >= least && number <= greatest;
    }

    private static boolean isPicture(int t) {
        return isWithin(t, 0, PICTURES - 1);
    }

    private static boolean isInPicture(int x, int y) {
        return isWithin(x, 0, WIDE - 1) && isWithin(y, 0, HIGH - 1);
    }

    private static boolean isPlace(int number) {
        return isWithin(number, LEAST_PLACE, MOST_PLACE);
    }

    private static boolean isSize(int number) {
        return isWithin(number, 1, MOST_SIZE);
    }

    /** Java takes a shift by its last five bits alone, so wide ones are told apart first. */
    private static int shifted(int row, int toTheRight) {
        if (toTheRight <= -WIDE || toTheRight >= WIDE) {
            return 0;
        }
        return toTheRight >= 0 ? row >>> toTheRight : row << -toTheRight;
    }

    private static int dotMask(int x) {
        return shifted(LEFTMOST, x);
    }

    /** The DOTS x .. x and w less 1 of a row, those beyond it left out. */
    private static int spanMask(int x, int w) {
        int from = Math.max(x, 0);
        int end = Math.min(x + w, WIDE);
        return from < end ? shifted(ALL_ONES, from) & ~shifted(ALL_ONES, end) : 0;
    }

    private static int joinedRow(int s, int p, int d, int join) {
        int row = 0;
        for (int bit = 0; bit < 8; bit++) {
            if ((join >> bit & 1) == 1) {
                row |= ((bit & 4) != 0 ? s : ~s) & ((bit & 2) != 0 ? p : ~p) & ((bit & 1) != 0 ? d : ~d);
            }
        }
        return row;
    }

    /** What a STATE holds: PICTURES, THE PATTERN, OPENINGS. A row is an int, its greatest bit x 0. */
    private static final class Scene {
        final int[] rows = new int[PICTURES * HIGH];
        final int[] patternRows = new int[PATTERN_ROWS];
        final int[] openings = new int[MOST_OPENINGS * OPENING_NUMBERS];
        int openingCount;

        Scene() {
            Arrays.fill(patternRows, MOST_BITS);
        }

        void becomes(Scene other) {
            System.arraycopy(other.rows, 0, rows, 0, rows.length);
            System.arraycopy(other.patternRows, 0, patternRows, 0, patternRows.length);
            System.arraycopy(other.openings, 0, openings, 0, openings.length);
            openingCount = other.openingCount;
        }

        int rowAt(int t, int y) {
            return isPicture(t) && isWithin(y, 0, HIGH - 1) ? rows[t * HIGH + y] : 0;
        }

        void putRow(int t, int y, int row) {
            if (isPicture(t) && isWithin(y, 0, HIGH - 1)) {
                rows[t * HIGH + y] = row;
            }
        }

        int dotAt(int t, int x, int y) {
            return isInPicture(x, y) && (rowAt(t, y) & dotMask(x)) != 0 ? 1 : 0;
        }

        int patternAt(int y) {
            return patternRows[y & PATTERN_ROWS - 1] * 0x01010101;
        }

        /** The OPEN DOTS of row y. */
        int openAt(int y) {
            if (openingCount == 0) {
                return ALL_ONES;
            }
            int mask = 0;
            for (int k = 0; k < openingCount && k < MOST_OPENINGS; k++) {
                int first = k * OPENING_NUMBERS;
                int top = openings[first + 1];
                if (y >= top && y < top + openings[first + 3]) {
                    mask |= spanMask(openings[first], openings[first + 2]);
                }
            }
            return mask;
        }

        /** Whether a DOT is in the PICTURES and OPEN. */
        boolean isOpen(int x, int y) {
            return isInPicture(x, y) && (openAt(y) & dotMask(x)) != 0;
        }

        void opens(int x, int y, int w, int h) {
            if (openingCount >= MOST_OPENINGS) {
                return;
            }
            int first = openingCount * OPENING_NUMBERS;
            openings[first] = x;
            openings[first + 1] = y;
            openings[first + 2] = w;
            openings[first + 3] = h;
            openingCount++;
        }

        /** The OPEN DOTS of mask in row y become those of the JOIN: how many are otherwise. */
        int joinsRow(int t, int y, int mask, int source, int join) {
            int changeable = mask & openAt(y);
            if (changeable == 0) {
                return 0;
            }
            int was = rowAt(t, y);
            int comes = joinedRow(source, patternAt(y), was, join);
            return turnsDots(t, y, (comes ^ was) & changeable);
        }

        /** The DOTS of mask in row y become the other ones: how many; none beyond the PICTURE. */
        int turnsDots(int t, int y, int mask) {
            if (!isPicture(t) || !isWithin(y, 0, HIGH - 1)) {
                return 0;
            }
            rows[t * HIGH + y] ^= mask;
            return Integer.bitCount(mask);
        }

        long mixedInto(long start) {
            long h = start;
            for (int k = 0; k < rows.length; k++) {
                h = 31 * h + rows[k];
            }
            for (int k = 0; k < PATTERN_ROWS; k++) {
                h = 31 * h + patternRows[k];
            }
            for (int k = 0; k < openingCount * OPENING_NUMBERS && k < openings.length; k++) {
                h = 31 * h + openings[k];
            }
            return h;
        }
    }

    /** The STATES to go back to, in a ring, so that the oldest one is lost where a new one comes. */
    private static final class Past {
        final Scene[] kept = new Scene[MOST_STATES];
        int next;
        int size;

        Past() {
            for (int k = 0; k < MOST_STATES; k++) {
                kept[k] = new Scene();
            }
        }

        void keeps(Scene scene) {
            kept[next].becomes(scene);
            next = (next + 1) % MOST_STATES;
            size = Math.min(size + 1, MOST_STATES);
        }

        void givesBack(Scene scene) {
            if (size == 0) {
                return;
            }
            next = (next + MOST_STATES - 1) % MOST_STATES;
            size--;
            scene.becomes(kept[next]);
        }
    }

    /** DOTS that hang together over sides, taken out of left a part at a time. */
    private static final class Parts {
        /** Each step takes whole runs out of a row, and a row of 32 has 16 runs at most. */
        static final int MOST_STEPS = HIGH * WIDE / 2;

        final int[] left = new int[HIGH];
        final int[] stepRows = new int[MOST_STEPS];
        final int[] stepDots = new int[MOST_STEPS];
        int steps;

        /** Takes out what hangs together with the DOTS of seed in row y. */
        void takesOut(int y, int seed) {
            steps = 0;
            reaches(y, seed);
            for (int done = 0; done < MOST_STEPS && steps > 0; done++) {
                steps--;
                int row = stepRows[steps];
                int dots = stepDots[steps];
                reaches(row - 1, dots);
                reaches(row + 1, dots);
            }
        }

        int numberOfParts() {
            int found = 0;
            for (int y = 0; y < HIGH; y++) {
                for (int run = 0; run < WIDE && left[y] != 0; run++) {
                    takesOut(y, left[y] & -left[y]);
                    found++;
                }
            }
            return found;
        }

        private void reaches(int y, int dots) {
            if (!isWithin(y, 0, HIGH - 1) || steps >= MOST_STEPS) {
                return;
            }
            int reached = runsThrough(left[y], left[y] & dots);
            if (reached != 0) {
                left[y] &= ~reached;
                stepRows[steps] = y;
                stepDots[steps] = reached;
                steps++;
            }
        }

        /** The runs of a row that hold a DOT of seeds; twice as far at each step, so five are enough. */
        private static int runsThrough(int row, int seeds) {
            int toLeft = seeds;
            int toRight = seeds;
            int freeLeft = row;
            int freeRight = row;
            for (int far = 1; far < WIDE; far *= 2) {
                toLeft |= freeLeft & toLeft << far;
                freeLeft &= freeLeft << far;
                toRight |= freeRight & toRight >>> far;
                freeRight &= freeRight >>> far;
            }
            return toLeft | toRight;
        }
    }

    /** An ORDER: its sign and its numbers, told by a call or by THE TEXT, within the same bounds. */
    private static final class Order {
        static final int MOVE = 'm', LINE = 'l', FLOOD = 'f', RECTANGLE = 'r', LETTER = 'c';
        static final int OPENING = 'o', CLOSES = 'k';
        static final int MOST_NUMBERS = 9;

        final int[] numbers = new int[MOST_NUMBERS];
        int sign;
        String kinds = "";
        int size;
        boolean allWithin;

        void begins(int newSign) {
            sign = newSign;
            kinds = kindsOf(newSign);
            size = 0;
            allWithin = true;
        }

        Order with(int number) {
            if (size < kinds.length() && size < MOST_NUMBERS) {
                allWithin = allWithin && isOfKind(number, kinds.charAt(size));
                numbers[size] = number;
                size++;
            }
            return this;
        }

        boolean isAsTold() {
            return allWithin && size == kinds.length();
        }

        int numberAt(int k) {
            return isWithin(k, 0, size - 1) ? numbers[k] : 0;
        }

        static boolean isSign(int sign) {
            return sign == CLOSES || !kindsOf(sign).isEmpty();
        }

        /** For each number of an ORDER what it is: p PICTURE, x place, w size, n LETTER, j JOIN. */
        private static String kindsOf(int sign) {
            switch (sign) {
                case MOVE: return "pxxwwpxxj";
                case LINE: return "pxxxxj";
                case FLOOD: return "pxx";
                case RECTANGLE: return "pxxwwj";
                case LETTER: return "pnxxj";
                case OPENING: return "xxww";
                default: return "";
            }
        }

        private static boolean isOfKind(int number, char kind) {
            switch (kind) {
                case 'p': return isPicture(number);
                case 'x': return isPlace(number);
                case 'w': return isSize(number);
                case 'n': return isWithin(number, 0, LETTERS - 1);
                default: return isWithin(number, 0, MOST_BITS);
            }
        }
    }

    /** THE TEXT, and the reading of ORDERS from it. */
    private static final class OrderText {
        static final int BLANK = ' ', MINUS = '-', END_OF_ORDER = ';', NOTHING = -1;
        static final int MOST_FIGURES = 3;

        final byte[] bytes = new byte[MOST_BYTES];
        int length;
        int place;
        int number;

        void takes(int c) {
            if (length < MOST_BYTES) {
                bytes[length] = (byte) c;
                length++;
            }
        }

        void restarts() {
            place = 0;
        }

        /** Blanks may stand anywhere, so those ahead of the end, or of the next ORDER, are passed over. */
        boolean isAtEnd() {
            skipsBlanks();
            return place >= length;
        }

        /** The FAULT of the whole TEXT, or NONE; it is sought ahead of all doing, as by one nothing is done. */
        int faultIn(Order order, int openingsNow) {
            restarts();
            if (isAtEnd()) {
                return length;
            }
            int openings = openingsNow;
            for (int k = 0; k < MOST_BYTES && !isAtEnd(); k++) {
                if (byteHere() == Order.OPENING && openings >= MOST_OPENINGS) {
                    return place;
                }
                int fault = reads(order);
                if (fault != NONE) {
                    return fault;
                }
                openings = openingsAfter(order, openings);
            }
            return NONE;
        }

        /** Reads the next ORDER: its FAULT, or NONE. */
        int reads(Order order) {
            skipsBlanks();
            int sign = byteHere();
            if (!Order.isSign(sign)) {
                return place;
            }
            order.begins(sign);
            place++;
            for (int k = 0; k < order.kinds.length(); k++) {
                skipsBlanks();
                int first = place;
                if (!readsNumber() || !order.with(number).allWithin) {
                    return first;
                }
            }
            skipsBlanks();
            if (byteHere() != END_OF_ORDER) {
                return place;
            }
            place++;
            return NONE;
        }

        private boolean readsNumber() {
            boolean isNegative = byteHere() == MINUS;
            if (isNegative) {
                place++;
            }
            int value = 0;
            int figures = 0;
            while (figures <= MOST_FIGURES && isWithin(byteHere(), '0', '9')) {
                value = 10 * value + byteHere() - '0';
                figures++;
                place++;
            }
            number = isNegative ? -value : value;
            return isWithin(figures, 1, MOST_FIGURES);
        }

        private void skipsBlanks() {
            while (place < length && byteHere() == BLANK) {
                place++;
            }
        }

        private int byteHere() {
            return isWithin(place, 0, length - 1) ? bytes[place] : NOTHING;
        }

        private static int openingsAfter(Order order, int openings) {
            switch (order.sign) {
                case Order.OPENING: return openings + 1;
                case Order.CLOSES: return 0;
                default: return openings;
            }
        }
    }

    /** Does ORDERS on the PICTURES; each is taken to be as told. */
    private static final class Painter {
        final Scene scene;
        final Parts parts;
        final int[] source = new int[HIGH];
        final int[] like = new int[HIGH];

        Painter(Scene scene, Parts parts) {
            this.scene = scene;
            this.parts = parts;
        }

        /** How many DOTS are otherwise by the ORDER. */
        int performs(Order order) {
            switch (order.sign) {
                case Order.MOVE: return movesBlock(order);
                case Order.LINE: return drawsLine(order);
                case Order.FLOOD: return floods(order.numberAt(0), order.numberAt(1), order.numberAt(2));
                case Order.RECTANGLE: return fillsRectangle(order);
                case Order.LETTER: return writesLetter(order);
                case Order.OPENING:
                    scene.opens(order.numberAt(0), order.numberAt(1), order.numberAt(2), order.numberAt(3));
                    return 0;
                case Order.CLOSES:
                    scene.openingCount = 0;
                    return 0;
                default: return 0;
            }
        }

        private int movesBlock(Order order) {
            keepsSource(order.numberAt(0));
            int x = order.numberAt(1);
            int y = order.numberAt(2);
            int h = order.numberAt(4);
            int t = order.numberAt(5);
            int toX = order.numberAt(6);
            int toY = order.numberAt(7);
            int mask = spanMask(toX, order.numberAt(3));
            int otherwise = 0;
            for (int k = 0; k < h && k < MOST_SIZE; k++) {
                int comes = shifted(sourceAt(y + k), toX - x);
                otherwise += scene.joinsRow(t, toY + k, mask, comes, order.numberAt(8));
            }
            return otherwise;
        }

        /** A block may overlap itself, and the source counts as it was ahead of all. */
        private void keepsSource(int s) {
            for (int y = 0; y < HIGH; y++) {
                source[y] = scene.rowAt(s, y);
            }
        }

        private int sourceAt(int y) {
            return isWithin(y, 0, HIGH - 1) ? source[y] : 0;
        }

        private int drawsLine(Order order) {
            int x0 = order.numberAt(1);
            int y0 = order.numberAt(2);
            int x1 = order.numberAt(3);
            int y1 = order.numberAt(4);
            int n = Math.max(Math.abs(x1 - x0), Math.abs(y1 - y0));
            int otherwise = 0;
            for (int i = 0; i <= n && i <= MOST_PLACE - LEAST_PLACE; i++) {
                int mask = spanMask(between(x0, x1, i, n), 1);
                int y = between(y0, y1, i, n);
                otherwise += scene.joinsRow(order.numberAt(0), y, mask, ALL_ONES, order.numberAt(5));
            }
            return otherwise;
        }

        /** Of the way that is farther this gives one by one, so both ways are told by it. */
        private static int between(int v0, int v1, int i, int n) {
            return n <= 0 ? v0 : v0 + Math.floorDiv((v1 - v0) * 2 * i + n, 2 * n);
        }

        private int floods(int t, int x, int y) {
            if (!scene.isOpen(x, y)) {
                return 0;
            }
            int turn = scene.dotAt(t, x, y) == 1 ? 0 : ALL_ONES;
            for (int k = 0; k < HIGH; k++) {
                like[k] = (scene.rowAt(t, k) ^ turn) & scene.openAt(k);
                parts.left[k] = like[k];
            }
            parts.takesOut(y, dotMask(x));
            int otherwise = 0;
            for (int k = 0; k < HIGH; k++) {
                otherwise += scene.turnsDots(t, k, like[k] & ~parts.left[k]);
            }
            return otherwise;
        }

        private int fillsRectangle(Order order) {
            int t = order.numberAt(0);
            int y = order.numberAt(2);
            int h = order.numberAt(4);
            int mask = spanMask(order.numberAt(1), order.numberAt(3));
            int otherwise = 0;
            for (int k = 0; k < h && k < MOST_SIZE; k++) {
                otherwise += scene.joinsRow(t, y + k, mask, ALL_ONES, order.numberAt(5));
            }
            return otherwise;
        }

        private int writesLetter(Order order) {
            int n = order.numberAt(1);
            int x = order.numberAt(2);
            int y = order.numberAt(3);
            int mask = spanMask(x, LETTER_SIZE);
            int otherwise = 0;
            for (int k = 0; k < LETTER_SIZE; k++) {
                int comes = shifted(letterRow(n, k), x);
                otherwise += scene.joinsRow(order.numberAt(0), y + k, mask, comes, order.numberAt(4));
            }
            return otherwise;
        }

        /** Row k of LETTER n, at the left of a row. */
        private static int letterRow(int n, int k) {
            return (n * 5 + 3 * k + n / 3) % 16 << WIDE - LETTER_SIZE;
        }
    }

    /** What is done to a PICTURE as a whole. */
    private static final class Whole {
        static final int MIRRORED = 0, UPSIDE_DOWN = 1, GROWN = 2, THINNED = 3, EDGE = 4;

        final Scene scene;
        final int[] comes = new int[HIGH];

        Whole(Scene scene) {
            this.scene = scene;
        }

        void drawn(int t, int seed) {
            long number = seed;
            for (int y = 0; y < HIGH; y++) {
                number = numberBehind(number);
                int leftDots = (int) (number / 32768 % 65536);
                number = numberBehind(number);
                int rightDots = (int) (number / 32768 % 65536);
                scene.putRow(t, y, leftDots << 16 | rightDots);
            }
        }

        private static long numberBehind(long number) {
            return (number * 1103515245L + 12345L) % 2147483648L;
        }

        int joined(int s, int t, int join) {
            int otherwise = 0;
            for (int y = 0; y < HIGH; y++) {
                otherwise += scene.joinsRow(t, y, ALL_ONES, scene.rowAt(s, y), join);
            }
            return otherwise;
        }

        int changed(int t, int way) {
            for (int y = 0; y < HIGH; y++) {
                comes[y] = changedRow(t, y, way);
            }
            return becomesWhatComes(t);
        }

        int rolled(int t, int x, int y) {
            for (int k = 0; k < HIGH; k++) {
                int row = scene.rowAt(t, Math.floorMod(k - y, HIGH));
                int toTheRight = Math.floorMod(x, WIDE);
                comes[k] = shifted(row, toTheRight) | shifted(row, toTheRight - WIDE);
            }
            return becomesWhatComes(t);
        }

        private int changedRow(int t, int y, int way) {
            switch (way) {
                case MIRRORED: return mirroredRow(scene.rowAt(t, y));
                case UPSIDE_DOWN: return scene.rowAt(t, HIGH - 1 - y);
                case GROWN: return grownRow(t, y);
                case THINNED: return thinnedRow(t, y);
                default: return scene.rowAt(t, y) & ~thinnedRow(t, y);
            }
        }

        private int grownRow(int t, int y) {
            int row = scene.rowAt(t, y);
            return row | row << 1 | row >>> 1 | scene.rowAt(t, y - 1) | scene.rowAt(t, y + 1);
        }

        private int thinnedRow(int t, int y) {
            int row = scene.rowAt(t, y);
            return row & row << 1 & row >>> 1 & scene.rowAt(t, y - 1) & scene.rowAt(t, y + 1);
        }

        private static int mirroredRow(int row) {
            int mirrored = 0;
            for (int x = 0; x < WIDE; x++) {
                mirrored |= (row >>> x & 1) << WIDE - 1 - x;
            }
            return mirrored;
        }

        private int becomesWhatComes(int t) {
            int otherwise = 0;
            for (int y = 0; y < HIGH; y++) {
                otherwise += scene.turnsDots(t, y, scene.rowAt(t, y) ^ comes[y]);
            }
            return otherwise;
        }
    }

    /** What is counted and sought in PICTURES. */
    private static final class Measure {
        static final int ONES = 0, PARTS_OF_ONES = 1, LEAST_X = 2, GREATEST_X = 3;
        static final int LEAST_Y = 4, GREATEST_Y = 5, OPEN_DOTS = 6;

        final Scene scene;
        final Parts parts;
        final int[] block = new int[MOST_FOUND];

        Measure(Scene scene, Parts parts) {
            this.scene = scene;
            this.parts = parts;
        }

        int measured(int t, int what) {
            switch (what) {
                case ONES: return ones(t);
                case PARTS_OF_ONES: return partsOf(t);
                case LEAST_X: return leastX(t);
                case GREATEST_X: return greatestX(t);
                case LEAST_Y: return leastY(t);
                case GREATEST_Y: return greatestY(t);
                default: return openDots();
            }
        }

        int ones(int t) {
            return onesWithin(t, 0, 0, WIDE, HIGH);
        }

        int onesWithin(int t, int x, int y, int w, int h) {
            int mask = spanMask(x, w);
            int found = 0;
            for (int k = 0; k < h && k < MOST_SIZE; k++) {
                found += Integer.bitCount(scene.rowAt(t, y + k) & mask);
            }
            return found;
        }

        int unlikeDots(int s, int t) {
            int found = 0;
            for (int y = 0; y < HIGH; y++) {
                found += Integer.bitCount(scene.rowAt(s, y) ^ scene.rowAt(t, y));
            }
            return found;
        }

        /** The block's rows are kept at the left, its DOT i being the sign's bit once it is shifted by i. */
        void takesBlock(int s, int x, int y, int h) {
            for (int k = 0; k < h && k < MOST_FOUND; k++) {
                block[k] = shifted(scene.rowAt(s, y + k), -x);
            }
        }

        int placesOfBlock(int t, int w, int h) {
            int found = 0;
            for (int y = 0; y <= HIGH - h; y++) {
                int places = spanMask(0, WIDE - w + 1);
                for (int k = 0; k < h && k < MOST_FOUND; k++) {
                    places &= alikePlaces(scene.rowAt(t, y + k), block[k], w);
                }
                found += Integer.bitCount(places);
            }
            return found;
        }

        /** All places of a row at once: a bit stays where the w DOTS from it on are those of the block's row. */
        private static int alikePlaces(int row, int blockRow, int w) {
            int places = ALL_ONES;
            for (int i = 0; i < w; i++) {
                int wanted = shifted(blockRow, -i) < 0 ? ALL_ONES : 0;
                places &= ~(shifted(row, -i) ^ wanted);
            }
            return places;
        }

        private int partsOf(int t) {
            for (int y = 0; y < HIGH; y++) {
                parts.left[y] = scene.rowAt(t, y);
            }
            return parts.numberOfParts();
        }

        private int columnsOf(int t) {
            int columns = 0;
            for (int y = 0; y < HIGH; y++) {
                columns |= scene.rowAt(t, y);
            }
            return columns;
        }

        private int leastX(int t) {
            int columns = columnsOf(t);
            for (int x = 0; x < WIDE; x++) {
                if ((columns & dotMask(x)) != 0) {
                    return x;
                }
            }
            return NONE;
        }

        private int greatestX(int t) {
            int columns = columnsOf(t);
            for (int x = WIDE - 1; x >= 0; x--) {
                if ((columns & dotMask(x)) != 0) {
                    return x;
                }
            }
            return NONE;
        }

        private int leastY(int t) {
            for (int y = 0; y < HIGH; y++) {
                if (scene.rowAt(t, y) != 0) {
                    return y;
                }
            }
            return NONE;
        }

        private int greatestY(int t) {
            for (int y = HIGH - 1; y >= 0; y--) {
                if (scene.rowAt(t, y) != 0) {
                    return y;
                }
            }
            return NONE;
        }

        private int openDots() {
            int found = 0;
            for (int y = 0; y < HIGH; y++) {
                found += Integer.bitCount(scene.openAt(y));
            }
            return found;
        }
    }
}
