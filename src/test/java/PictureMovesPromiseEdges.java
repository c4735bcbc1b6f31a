import java.math.BigInteger;

/** The boundary cases that the promises themselves name, each with a test of its own; bounds of numbers stand in PictureMovesBounds. */
public final class PictureMovesPromiseEdges {
    private static final int NONE = PictureMoves.NONE, BAD = PictureMoves.BAD, NO = PictureMoves.NO, FULL = PictureMoves.FULL;
    private static final int SOURCE = Pictures.SOURCE, THERE = Pictures.THERE, TURNED = Pictures.TURNED;
    private static final int LOW = Pictures.LOW, HIGH = Pictures.HIGH;
    private static final int[][] CORNERS = {{0, 0}, {31, 0}, {0, 23}, {31, 23}};

    private static void due(String call, long got, long want) {
        Due.due(call, got, want);
    }

    /** An object with one OPENING that lies beyond, so that no DOT is OPEN. */
    private static PictureMoves allClosed() {
        PictureMoves x = new PictureMoves();
        x.opening(63, 63, 1, 1);
        return x;
    }

    /** Promise 2, dot: "whether OPEN or not"; "what it was"; a STATE, even if it was so before. */
    private static void dotAtTheCorners() {
        for (int[] c : CORNERS) {
            PictureMoves x = allClosed();
            due("dot to 1", x.dot(2, c[0], c[1], 1), 0);
            due("dot to 1 again", x.dot(2, c[0], c[1], 1), 1);
            due("told(5)", x.told(5), 3);
            due("of(2, 0)", x.of(2, 0), 1);
            due("dot to 0", x.dot(2, c[0], c[1], 0), 1);
            due("dot to 0 again", x.dot(2, c[0], c[1], 0), 0);
            due("told(5)", x.told(5), 5);
            due("of(2, 0)", x.of(2, 0), 0);
        }
        Pictures.refused("dot(1, 32, 23, 1): beyond", Pictures.met(1), Pictures.met(1), x -> x.dot(1, 32, 23, 1), BAD, 0);
        Pictures.refused("dot(1, 31, 24, 1): beyond", Pictures.met(1), Pictures.met(1), x -> x.dot(1, 31, 24, 1), BAD, 0);
    }

    /** Promise 3, pattern: "the greatest is x 0"; rows 0 and 7; bits 0 and 255. */
    private static void patternAtItsEdges() {
        for (int y : new int[] {0, 7}) {
            PictureMoves x = new PictureMoves();
            due("pattern to 0", x.pattern(y, 0), 255);
            due("pattern to 255", x.pattern(y, 255), 0);
            due("pattern to 255 again", x.pattern(y, 255), 255);
            due("pattern to 128", x.pattern(y, 128), 255);
            due("told(5)", x.told(5), 4);
            due("a row by THE PATTERN", x.rectangle(0, 0, y, 8, 1, Pictures.PATTERN), 1);
            due("x 0", x.at(0, 0, y), 1);
            due("pattern to 1", x.pattern(y, 1), 128);
            due("a row by THE PATTERN", x.rectangle(0, 0, y + 8, 8, 1, Pictures.PATTERN), 1);
            due("x 7", x.at(0, 7, y + 8), 1);
        }
    }

    /**
     * Promise 4, draw: the least and the greatest SEED; all DOTS, whether OPEN or not; what is left over. 1328 draws 16 DOTS of 1
     * at the left of row 8, 109 at the right of row 16.
     */
    private static void drawnFromEachEnd() {
        due("16 DOTS of 1 at the left", drawn(1328).count(0, 0, 8, 16, 1), 16);
        due("16 DOTS of 1 at the right", drawn(109).count(0, 16, 16, 16, 1), 16);
        due("16 DOTS of 0 at the left", drawn(0).count(0, 0, 0, 16, 1), 0);
        for (int seed : new int[] {0, 1, 2, 109, 1328, 65535, 65536, 500000, 999998, 999999}) {
            for (int t = 0; t < 3; t++) {
                PictureMoves x = allClosed();
                x.rectangle(t, 0, 0, 32, 24, 255);
                long answer = x.draw(t, seed);
                BigInteger number = BigInteger.valueOf(seed);
                int ones = 0;
                for (int y = 0; y < 24; y++) {
                    number = next(number);
                    int left = cut(number);
                    number = next(number);
                    int row = left * 65536 + cut(number);
                    due("row(" + t + ", " + y + ") of SEED " + seed, x.row(t, y), row);
                    ones += Integer.bitCount(row);
                }
                due("draw(" + t + ", " + seed + ")", answer, ones);
                due("others stay", x.of((t + 1) % 3, 0) + x.of((t + 2) % 3, 0), 0);
                due("told(5)", x.told(5), 3);
            }
        }
    }

    private static PictureMoves drawn(int seed) {
        PictureMoves x = new PictureMoves();
        x.draw(0, seed);
        return x;
    }

    private static BigInteger next(BigInteger number) {
        return number.multiply(BigInteger.valueOf(1103515245)).add(BigInteger.valueOf(12345)).mod(BigInteger.valueOf(2147483648L));
    }

    private static int cut(BigInteger number) {
        return number.divide(BigInteger.valueOf(32768)).mod(BigInteger.valueOf(65536)).intValue();
    }

    /** Promises 5 and 6, opening and closes: empty and full. */
    private static void openingsEmptyAndFull() {
        PictureMoves x = new PictureMoves();
        due("closes() of none", x.closes(), 0);
        due("told(5): S", x.told(5), 1);
        for (int k = 1; k <= 4; k++) {
            due("opening", x.opening(k, k, k, k), k);
        }
        due("told(5)", x.told(5), 5);
        due("opening, FULL", x.opening(0, 0, 1, 1), FULL);
        due("told(5)", x.told(5), 5);
        due("closes() of all", x.closes(), 4);
        due("told(4)", x.told(4), 0);
        due("back()", x.back(), 5);
        due("told(4)", x.told(4), 4);
        due("OPEN DOTS", x.of(0, 6), 1 + 4 + 9 + 16 - 1 - 4);
        Pictures.refused("a 5th opening", Pictures.met(3), Pictures.met(3), p -> p.opening(0, 0, 32, 24), FULL, 2);
    }

    /** Promises 7, 8, 10, 11, 12: "how many DOTS are otherwise": none, all; a STATE all the same. */
    private static void otherwiseNoneAndAll() {
        Pictures.Call[] none = {x -> x.move(0, 0, 0, 32, 24, 0, 0, 0, SOURCE), x -> x.move(0, 0, 0, 64, 64, 0, 0, 0, THERE),
            x -> x.line(0, 0, 0, 31, 23, THERE), x -> x.rectangle(0, 0, 0, 64, 64, THERE), x -> x.letter(0, 1, 3, 3, THERE),
            x -> x.joins(0, 0, SOURCE), x -> x.joins(1, 0, THERE), x -> x.rolls(0, 0, 0), x -> x.rolls(0, 0, 24), x -> x.rolls(0, 0, -24)};
        Pictures.Call[] all = {x -> x.move(0, 0, 0, 32, 24, 0, 0, 0, 15), x -> x.move(1, 0, 0, 64, 64, 0, 0, 0, TURNED),
            x -> x.rectangle(0, 0, 0, 32, 24, TURNED), x -> x.joins(0, 0, TURNED), x -> x.joins(0, 0, 15)};
        for (int k = 0; k < none.length; k++) {
            PictureMoves x = Pictures.met(0);
            x.draw(0, 40);
            due("none otherwise by " + k, none[k].on(x), 0);
            due("told(5)", x.told(5), 2);
            due("back()", x.back(), 1);
        }
        for (int k = 0; k < all.length; k++) {
            PictureMoves x = Pictures.met(0);
            int ones = x.draw(0, 40);
            due("all otherwise by " + k, all[k].on(x), 768);
            due("DOTS of 1", x.of(0, 0), 768 - ones);
        }
    }

    /** Promise 9, flood: "NO: the DOT is not in the PICTURE or not OPEN": the last DOT that is, the first that is not. */
    private static void floodsFromTheSides() {
        for (int[] c : CORNERS) {
            due("flood from a corner", new PictureMoves().flood(1, c[0], c[1]), 768);
        }
        int[][] beyond = {{-1, 0}, {32, 0}, {0, -1}, {0, 24}, {-64, 0}, {63, 0}, {0, -64}, {0, 63}, {-64, -64}, {63, 63}};
        for (int[] p : beyond) {
            for (int kind = 0; kind < Pictures.KINDS_MET; kind++) {
                Pictures.refused("flood(1, " + p[0] + ", " + p[1] + ")", Pictures.met(kind), Pictures.met(kind), x -> x.flood(1, p[0], p[1]), NO, 1);
            }
        }
        int[][] closed = {{1, 3}, {22, 3}, {2, 2}, {2, 18}, {31, 23}, {0, 0}};
        for (int[] p : closed) {
            Pictures.refused("flood(0, " + p[0] + ", " + p[1] + "), not OPEN", Pictures.met(1), Pictures.met(1), x -> x.flood(0, p[0], p[1]), NO, 1);
        }
        int[][] opened = {{2, 3}, {21, 3}, {2, 17}, {21, 17}};
        for (int[] p : opened) {
            PictureMoves x = Pictures.met(1);
            Due.holds("flood(0, " + p[0] + ", " + p[1] + "), OPEN", x.flood(0, p[0], p[1]) > 0);
            due("told(5)", x.told(5), 4);
        }
    }

    /** Promise 10, rectangle: reaching over each side by all but one row or column, and by all. */
    private static void rectanglesOverTheSides() {
        int[][] a = {{-63, 0, 64, 24, 24}, {-64, 0, 64, 24, 0}, {31, 0, 64, 24, 24}, {32, 0, 64, 24, 0}, {0, -63, 32, 64, 32},
            {0, -64, 32, 64, 0}, {0, 23, 32, 64, 32}, {0, 24, 32, 64, 0}, {0, 0, 1, 1, 1}, {31, 23, 1, 1, 1}, {-32, -40, 64, 64, 768},
            {0, 0, 64, 64, 768}, {0, 0, 31, 24, 744}, {0, 0, 32, 23, 736}, {63, 63, 64, 64, 0}, {-64, -64, 1, 1, 0}};
        for (int[] r : a) {
            String call = "rectangle(0, " + r[0] + ", " + r[1] + ", " + r[2] + ", " + r[3] + ", 255)";
            PictureMoves x = new PictureMoves();
            due(call, x.rectangle(0, r[0], r[1], r[2], r[3], 255), r[4]);
            due("DOTS of 1 by " + call, x.of(0, 0), r[4]);
            due("DOTS of 1 counted there", x.count(0, r[0], r[1], r[2], r[3]), r[4]);
            due("in a full one", Pictures.full(1).count(1, r[0], r[1], r[2], r[3]), r[4]);
        }
    }

    /** Promise 13, changes: what goes to the other side by 0 and 1; all DOTS, whether OPEN or not. */
    private static void mirroredAndUpsideDown() {
        for (int t = 0; t < 3; t++) {
            PictureMoves x = allClosed();
            for (int k = 0; k < 32; k++) {
                x.dot(t, k, 4, 1);
                due("mirrored: x as 31 less x", x.changes(t, 0), 2);
                due("at", x.at(t, 31 - k, 4), 1);
                x.dot(t, 31 - k, 4, 0);
            }
            for (int y = 0; y < 24; y++) {
                x.dot(t, 9, y, 1);
                due("upside down", x.changes(t, 1), 2);
                due("at", x.at(t, 9, 23 - y), 1);
                x.dot(t, 9, 23 - y, 0);
            }
            due("others stay", x.of(0, 0) + x.of(1, 0) + x.of(2, 0), 0);
        }
    }

    /** Promise 13, changes: empty and full; "beyond: 0"; one DOT in each corner and in the middle. */
    private static void grownThinnedAndEdge() {
        int[] full = {0, 0, 0, 108, 660};
        for (int way = 0; way < 5; way++) {
            due("an empty one by " + way, new PictureMoves().changes(1, way), 0);
            PictureMoves x = Pictures.full(1);
            x.opening(63, 63, 1, 1);
            due("a full one by " + way, x.changes(1, way), full[way]);
            due("told(5)", x.told(5), 3);
        }
        for (int[] c : new int[][] {{0, 0, 2}, {31, 0, 2}, {0, 23, 2}, {31, 23, 2}, {0, 9, 3}, {9, 0, 3}, {31, 9, 3}, {9, 23, 3}, {9, 9, 4}}) {
            PictureMoves x = allClosed();
            x.dot(0, c[0], c[1], 1);
            due("its edge is it", x.changes(0, 4), 0);
            due("grown", x.changes(0, 2), c[2]);
            for (int y = 0; y < 24; y++) {
                for (int k = 0; k < 32; k++) {
                    due("grown at " + k + ", " + y, x.at(0, k, y), Math.abs(k - c[0]) + Math.abs(y - c[1]) <= 1 ? 1 : 0);
                }
            }
            due("thinned again", x.changes(0, 3), c[2] == 4 ? 4 : c[2] + 1);
            due("a DOT at the side is not thinned to itself", x.of(0, 0), c[2] == 4 ? 1 : 0);
        }
        PictureMoves x = Pictures.shown(2, "", ".###.", ".###.", ".###.");
        due("3 by 3 thinned", x.changes(2, 3), 8);
        due("its middle", x.at(2, 2, 2), 1);
        x.back();
        due("the edge of 3 by 3", x.changes(2, 4), 1);
        due("its middle", x.at(2, 2, 2), 0);
    }

    /** Promise 14, rolls: "what goes out comes in on the other side", by each number from -31 to 31. */
    private static void rollsRound() {
        for (int by = -31; by <= 31; by++) {
            rolled(by, 0);
            rolled(0, by);
            rolled(by, -by);
        }
        rolled(31, 31);
        rolled(-31, -31);
        PictureMoves x = Pictures.full(0);
        due("a full one", x.rolls(0, 31, -31), 0);
        due("an empty one", x.rolls(1, -31, 31), 0);
        for (int[] c : CORNERS) {
            x = allClosed();
            x.dot(0, c[0], c[1], 1);
            int dx = c[0] == 0 ? -1 : 1;
            int dy = c[1] == 0 ? -1 : 1;
            due("out at a corner", x.rolls(0, dx, dy), 2);
            due("in at the other one", x.at(0, 31 - c[0], 23 - c[1]), 1);
        }
    }

    private static void rolled(int dx, int dy) {
        PictureMoves x = allClosed();
        x.draw(1, 31);
        x.draw(2, 32);
        int[] before = Pictures.rows(x, 1);
        long answer = x.rolls(1, dx, dy);
        int otherwise = 0;
        for (int y = 0; y < 24; y++) {
            for (int k = 0; k < 32; k++) {
                int toX = (k + dx + 32) % 32;
                int toY = (y + dy + 48) % 24;
                int comes = Pictures.dotOf(before, k, y);
                due("rolls by " + dx + ", " + dy + " at " + toX + ", " + toY, x.at(1, toX, toY), comes);
                otherwise += comes != Pictures.dotOf(before, toX, toY) ? 1 : 0;
            }
        }
        due("rolls by " + dx + ", " + dy, answer, otherwise);
        due("told(5)", x.told(5), 4);
    }

    /** Promise 15, at: "0 beyond", refused only for the PICTURE; promise 16, row: "BAD: 0", and counted. */
    private static void atAndRowBeyond() {
        int[] far = {-1, 32, 33, 63, 64, -32, -33, -64, -65, 1000, LOW, HIGH};
        for (int k : far) {
            for (int t = 0; t < 3; t++) {
                PictureMoves x = Pictures.full(t);
                due("at(" + t + ", " + k + ", 5)", x.at(t, k, 5), 0);
                due("at(" + t + ", 5, " + k + ")", x.at(t, 5, k), 0);
                due("at(" + t + ", " + k + ", " + k + ")", x.at(t, k, k), 0);
                due("told(0)", x.told(0), 0);
                due("row(" + t + ", " + k + ")", x.row(t, k), 0);
                due("told(0): row is refused", x.told(0), 1);
            }
        }
        PictureMoves x = Pictures.full(1);
        due("at(1, 5, 24)", x.at(1, 5, 24), 0);
        due("at(1, 5, 23)", x.at(1, 5, 23), 1);
        due("at(1, 31, 0)", x.at(1, 31, 0), 1);
        due("row(1, 0)", x.row(1, 0), -1);
        due("row(1, 23)", x.row(1, 23), -1);
        due("told(0)", x.told(0), 0);
        due("row(1, 24)", x.row(1, 24), 0);
        due("row(3, 0)", x.row(3, 0), 0);
        due("told(0)", x.told(0), 2);
        due("at(3, -1, -1): the PICTURE", x.at(3, -1, -1), BAD);
        due("told(0)", x.told(0), 3);
    }

    /** Promise 16, row: "the greatest bit, that of the sign, is x 0". */
    private static void rowsBitByBit() {
        for (int k = 0; k < 32; k++) {
            PictureMoves x = new PictureMoves();
            x.dot(1, k, 7, 1);
            due("row of the DOT at x " + k, x.row(1, 7), 1 << 31 - k);
        }
    }

    /** Promise 17, of: empty ("NONE: none"), full, one DOT at each place. */
    private static void ofEmptyAndFull() {
        ofIs(new PictureMoves(), 0, 0, NONE, NONE, NONE, NONE, 768);
        ofIs(Pictures.full(0), 768, 1, 0, 31, 0, 23, 768);
        ofIs(allClosed(), 0, 0, NONE, NONE, NONE, NONE, 0);
        for (int k = 0; k < 32; k++) {
            PictureMoves x = new PictureMoves();
            x.dot(0, k, k * 23 / 31, 1);
            ofIs(x, 1, 1, k, k, k * 23 / 31, k * 23 / 31, 768);
        }
        for (int y = 0; y < 24; y++) {
            PictureMoves x = new PictureMoves();
            x.dot(0, 31 - y, y, 1);
            ofIs(x, 1, 1, 31 - y, 31 - y, y, y, 768);
        }
        PictureMoves x = new PictureMoves();
        for (int[] c : CORNERS) {
            x.dot(0, c[0], c[1], 1);
        }
        ofIs(x, 4, 4, 0, 31, 0, 23, 768);
        x = Pictures.full(0);
        x.dot(0, 0, 0, 0);
        ofIs(x, 767, 1, 0, 31, 0, 23, 768);
        for (int k = 0; k < 4; k++) {
            x.opening(8 * k, 0, 8, 24);
        }
        ofIs(x, 767, 1, 0, 31, 0, 23, 768);
    }

    private static void ofIs(PictureMoves x, int... want) {
        for (int what = 0; what < want.length; what++) {
            due("of(0, " + what + ")", x.of(0, what), want[what]);
        }
    }

    /** Promise 17, of: PARTS "hang together over sides": not over corners, not round the edges; as many as there can be. */
    private static void partsAtTheirEdges() {
        ofParts(1, "###", "#.#", "###");
        ofParts(5, "#.#", ".#.", "#.#");
        ofParts(2, "##.", "..#", "..#");
        ofParts(1, "#.#.#", "#.#.#", "#####");
        ofParts(1, "#####", "#.#.#", "#.#.#");
        ofParts(3, "#.#.#", "#.#.#", "#.#.#");
        ofParts(2, "#####", "....#", "###.#", "#...#", "#####", ".....", "#");
        ofParts(2, "#######", "#.....#", "#.###.#", "#.....#", "#######");
        PictureMoves x = new PictureMoves();
        x.rectangle(0, 0, 0, 1, 24, 255);
        x.rectangle(0, 31, 0, 1, 24, 255);
        due("two columns at the sides", x.of(0, 1), 2);
        x = new PictureMoves();
        x.rectangle(0, 0, 0, 32, 1, 255);
        x.rectangle(0, 0, 23, 32, 1, 255);
        due("two rows at the sides", x.of(0, 1), 2);
        x = new PictureMoves();
        for (int y = 0; y < 8; y++) {
            x.pattern(y, y % 2 == 0 ? 0x55 : 0xAA);
        }
        due("chequers", x.rectangle(0, 0, 0, 32, 24, Pictures.PATTERN), 384);
        due("PARTS of chequers", x.of(0, 1), 384);
        x.opening(0, 0, 1, 1);
        due("PARTS of all DOTS, OPEN or not", x.of(0, 1), 384);
    }

    private static void ofParts(int want, String... rows) {
        due("PARTS of " + String.join("/", rows), Pictures.shown(0, rows).of(0, 1), want);
        PictureMoves x = Pictures.shown(0, rows);
        x.rolls(0, 31 - rows[0].length() + 1, 24 - rows.length);
        due("PARTS at the other corner of " + String.join("/", rows), x.of(0, 1), want);
    }

    /** Promise 18, count: whether OPEN or not, and what lies beyond is 0. */
    private static void countsBeyond() {
        PictureMoves x = Pictures.full(2);
        x.opening(63, 63, 1, 1);
        due("count(2, -1, -1, 2, 2)", x.count(2, -1, -1, 2, 2), 1);
        due("count(2, 31, 23, 2, 2)", x.count(2, 31, 23, 2, 2), 1);
        due("count(2, 31, -1, 2, 2)", x.count(2, 31, -1, 2, 2), 1);
        due("count(2, -1, 23, 2, 2)", x.count(2, -1, 23, 2, 2), 1);
        due("count(2, -1, -1, 1, 1)", x.count(2, -1, -1, 1, 1), 0);
        due("count(2, 32, 24, 1, 1)", x.count(2, 32, 24, 1, 1), 0);
        due("count(2, 0, 0, 64, 64)", x.count(2, 0, 0, 64, 64), 768);
        due("count(0, 0, 0, 64, 64) of an empty one", x.count(0, 0, 0, 64, 64), 0);
        due("told(5)", x.told(5), 2);
    }

    /** Promise 19, unlike: none and all; a PICTURE and itself. */
    private static void unlikeNoneAndAll() {
        PictureMoves x = Pictures.full(2);
        due("unlike(0, 1)", x.unlike(0, 1), 0);
        due("unlike(0, 2)", x.unlike(0, 2), 768);
        due("unlike(2, 1)", x.unlike(2, 1), 768);
        due("unlike(2, 2)", x.unlike(2, 2), 0);
        x.dot(0, 0, 0, 1);
        due("unlike(0, 2)", x.unlike(0, 2), 767);
        x.dot(1, 31, 23, 1);
        due("unlike(1, 0)", x.unlike(1, 0), 2);
    }

    /** Promise 20, finds: "1 .. 8 each", "all of it in it": each size at the last place where it is in it, and one beyond. */
    private static void findsAtTheSides() {
        for (int w = 1; w <= 8; w++) {
            for (int h = 1; h <= 8; h++) {
                final int wide = w;
                final int high = h;
                String size = w + " by " + h;
                PictureMoves x = new PictureMoves();
                due("0s of " + size, x.finds(0, 32 - w, 24 - h, w, h, 1), (33 - w) * (25 - h));
                due("0s of " + size, x.finds(0, 0, 0, w, h, 0), (33 - w) * (25 - h));
                x.dot(2, 31, 23, 1);
                due("a corner of " + size, x.finds(2, 32 - w, 24 - h, w, h, 2), 1);
                due("not in another one", x.finds(2, 32 - w, 24 - h, w, h, 0), 0);
                x.dot(1, 0, 0, 1);
                due("a corner of " + size, x.finds(1, 0, 0, w, h, 1), 1);
                due("0s of " + size + " beside a corner", x.finds(0, 0, 0, w, h, 1), (33 - w) * (25 - h) - 1);
                due("told(0)", x.told(0), 0);
                Pictures.refused("finds " + size + " one too far right", Pictures.met(1), Pictures.met(1), p -> p.finds(0, 33 - wide, 0, wide, high, 1), BAD, 0);
                Pictures.refused("finds " + size + " one too far down", Pictures.met(1), Pictures.met(1), p -> p.finds(0, 0, 25 - high, wide, high, 1), BAD, 0);
                Pictures.refused("finds " + size + " at x -1", Pictures.met(1), Pictures.met(1), p -> p.finds(0, -1, 0, wide, high, 1), BAD, 0);
                Pictures.refused("finds " + size + " at y -1", Pictures.met(1), Pictures.met(1), p -> p.finds(0, 0, -1, wide, high, 1), BAD, 0);
            }
        }
        PictureMoves x = Pictures.full(0);
        due("blocks that overlap themselves", x.finds(0, 0, 0, 8, 8, 0), 25 * 17);
        x.opening(63, 63, 1, 1);
        due("whether OPEN or not", x.finds(0, 0, 0, 8, 8, 0), 25 * 17);
        x.dot(0, 15, 11, 0);
        due("without those that have the 0", x.finds(0, 0, 0, 8, 8, 0), 25 * 17 - 64);
        due("each place of the 0", x.finds(0, 15, 11, 1, 1, 0), 1);
        due("the block with the 0 at its lower right", x.finds(0, 8, 4, 8, 8, 0), 1);
    }

    /** Promise 21, open: "Whether x, y is OPEN", at the corners; "BAD: beyond 0 .. 31, 0 .. 23", even if an OPENING is there. */
    private static void openAtTheCorners() {
        PictureMoves x = new PictureMoves();
        x.opening(-5, -5, 64, 64);
        for (int[] c : CORNERS) {
            due("open", x.open(c[0], c[1]), 1);
            due("open", allClosed().open(c[0], c[1]), 0);
        }
        int bads = 0;
        for (int[] p : new int[][] {{-1, 0}, {32, 0}, {0, -1}, {0, 24}}) {
            due("open(" + p[0] + ", " + p[1] + ")", x.open(p[0], p[1]), BAD);
            bads++;
            due("told(0)", x.told(0), bads);
        }
    }

    /** Promise 23, clear: empty and full; the STATES, PICTURES and how often refused stay. */
    private static void clears() {
        Pictures.changesNothing("clear() of an empty one", Pictures.met(0), Pictures.met(0), PictureMoves::clear, 0);
        PictureMoves x = Pictures.met(3);
        due("type, FULL", x.type('k'), FULL);
        long before = x.digest();
        due("clear() of 120", x.clear(), 120);
        due("digest()", x.digest(), before - 120 * Pictures.weight(x, 3));
        due("told(2)", x.told(2), 1);
        due("told(5)", x.told(5), 6);
        due("clear() again", x.clear(), 0);
    }

    /** Promise 25, back: "how many can be yet"; "NO: none", which changes nothing but how often. */
    private static void backToTheLast() {
        PictureMoves x = new PictureMoves();
        for (int k = 0; k < 6; k++) {
            x.draw(0, k);
        }
        for (int left = 5; left >= 0; left--) {
            due("back()", x.back(), left);
            due("told(5)", x.told(5), left);
        }
        due("of(0, 0)", x.of(0, 0), 0);
        for (int k = 1; k <= 3; k++) {
            long before = x.digest();
            due("back() of none", x.back(), NO);
            due("told(1)", x.told(1), k);
            due("digest()", x.digest(), before + Pictures.weight(x, 1));
        }
        x.dot(0, 1, 1, 1);
        due("one again", x.back(), 0);
    }

    /** Promise 25, back: what was taken back can not come again; a call behind it leaves the next STATE from there. */
    private static void backAndOn() {
        PictureMoves x = new PictureMoves();
        x.dot(0, 0, 0, 1);
        x.dot(0, 1, 0, 1);
        x.dot(0, 2, 0, 1);
        due("back()", x.back(), 2);
        due("back()", x.back(), 1);
        x.dot(0, 9, 0, 1);
        due("told(5)", x.told(5), 2);
        due("row(0, 0)", x.row(0, 0), 0x80400000);
        due("back()", x.back(), 1);
        due("row(0, 0)", x.row(0, 0), LOW);
        due("back()", x.back(), 0);
        due("row(0, 0)", x.row(0, 0), 0);
        due("back()", x.back(), NO);
    }

    /** Promise 26, told: each of them, from none to its greatest; itself refused is counted as BAD. */
    private static void toldFromNoneToAll() {
        PictureMoves x = Pictures.met(3);
        int[] want = {0, 0, 0, 120, 4, 6};
        for (int what = 0; what < 6; what++) {
            due("told(" + what + ") of a new one", new PictureMoves().told(what), 0);
            due("told(" + what + ") of a full one", x.told(what), want[what]);
        }
        for (int k = 1; k <= 5; k++) {
            due("told(6)", x.told(6), BAD);
            due("told(-1)", x.told(-1), BAD);
            due("told(0)", x.told(0), 2 * k);
            x.opening(0, 0, 1, 1);
            x.type(0);
            due("told(2)", x.told(2), 2 * k);
            x.flood(0, 63, 63);
            due("told(1)", x.told(1), k);
        }
    }

    /** Promise 27, digest: "OPENINGS x, y, w, h", none to 4 of them, those there were no more; the rows with their signs. */
    private static void digestsStepByStep() {
        PictureMoves x = new PictureMoves();
        x.pattern(0, 1);
        x.pattern(7, 254);
        int[][] openings = {{-64, 63, 1, 64}, {63, -64, 64, 1}, {0, 0, 1, 1}, {-1, -1, 2, 3}};
        for (int n = 0; n <= 4; n++) {
            due("digest() with " + n + " OPENINGS", x.digest(), digest(x, openings, n, 1, 254));
            if (n < 4) {
                x.opening(openings[n][0], openings[n][1], openings[n][2], openings[n][3]);
            }
        }
        x.closes();
        due("digest() with none again", x.digest(), digest(x, openings, 0, 1, 254));
        x.opening(-64, 63, 1, 64);
        due("digest() with one again", x.digest(), digest(x, openings, 1, 1, 254));
        x.closes();
        x.draw(0, 999999);
        x.changes(2, 2);
        x.rectangle(2, 0, 0, 1, 24, 255);
        x.told(9);
        x.back();
        x.back();
        due("digest() with DOTS", x.digest(), digest(x, openings, 0, 1, 254));
    }

    private static long digest(PictureMoves x, int[][] openings, int n, int first, int last) {
        long h = 2083;
        for (int what = 0; what < 6; what++) {
            h = 31 * h + x.told(what);
        }
        for (int t = 0; t < 3; t++) {
            for (int y = 0; y < 24; y++) {
                h = 31 * h + x.row(t, y);
            }
        }
        for (int y = 0; y < 8; y++) {
            h = 31 * h + (y == 0 ? first : y == 7 ? last : 255);
        }
        for (int k = 0; k < n; k++) {
            for (int v : openings[k]) {
                h = 31 * h + v;
            }
        }
        return h;
    }

    /** "An object is used for at most 512 calls": as many refusals, and as many STATES, as there can be. */
    private static void fiveHundredAndTwelveCalls() {
        PictureMoves x = new PictureMoves();
        for (int k = 0; k < 510; k++) {
            due("told(7)", x.told(7), BAD);
        }
        due("told(0)", x.told(0), 510);
        x = new PictureMoves();
        for (int k = 0; k < 510; k++) {
            due("dot", x.dot(1, k % 32, 3, k / 32 % 2), k < 32 ? 0 : 1 - k / 32 % 2);
        }
        due("told(5)", x.told(5), 6);
    }

    public static void main(String[] args) {
        dotAtTheCorners();
        patternAtItsEdges();
        drawnFromEachEnd();
        openingsEmptyAndFull();
        otherwiseNoneAndAll();
        floodsFromTheSides();
        rectanglesOverTheSides();
        mirroredAndUpsideDown();
        grownThinnedAndEdge();
        rollsRound();
        atAndRowBeyond();
        rowsBitByBit();
        ofEmptyAndFull();
        partsAtTheirEdges();
        countsBeyond();
        unlikeNoneAndAll();
        findsAtTheSides();
        openAtTheCorners();
        clears();
        backToTheLast();
        backAndOn();
        toldFromNoneToAll();
        digestsStepByStep();
        fiveHundredAndTwelveCalls();
        Due.end();
    }
}
