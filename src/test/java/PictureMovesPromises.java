/** For each promise of the document: ordinary inputs, the edges that it names, wrong inputs. */
public final class PictureMovesPromises {
    private static final int NONE = PictureMoves.NONE, BAD = PictureMoves.BAD, NO = PictureMoves.NO, FULL = PictureMoves.FULL;
    private static final int SOURCE = 240, PATTERN = 204, THERE = 170, TURNED = 85;
    private static final int LOW = Integer.MIN_VALUE, HIGH = Integer.MAX_VALUE;

    private static void due(String call, long got, long want) {
        Due.due(call, got, want);
    }

    /** A refused call answers as due and is counted once; what else it may leave is looked at in PictureMovesBounds. */
    private static void refused(String call, PictureMoves x, int got, int want, int badsBefore) {
        due(call, got, want);
        due("told(0) after " + call, x.told(0), badsBefore + 1);
    }

    private static void promise1() {
        PictureMoves x = new PictureMoves();
        for (int what = 0; what < 6; what++) {
            due("told(" + what + ") of a new one", x.told(what), 0);
        }
        for (int t = 0; t < 3; t++) {
            due("of(" + t + ", 0) of a new one", x.of(t, 0), 0);
        }
        for (int y = 0; y < 8; y++) {
            due("pattern(" + y + ", 255) of a new one", x.pattern(y, 255), 255);
        }
        due("of(0, 6) of a new one", x.of(0, 6), 768);
        due("NONE", NONE, -1);
        due("BAD", BAD, -2);
        due("NO", NO, -3);
        due("FULL", FULL, -4);
        long h = 2083;
        for (int k = 0; k < 6 + 72; k++) {
            h = 31 * h;
        }
        for (int k = 0; k < 8; k++) {
            h = 31 * h + 255;
        }
        due("digest() of a new one", new PictureMoves().digest(), h);
        PictureMoves one = new PictureMoves();
        PictureMoves other = new PictureMoves();
        one.dot(0, 0, 0, 1);
        due("an object of its own", other.at(0, 0, 0), 0);
    }

    private static void promise2() {
        PictureMoves x = new PictureMoves();
        x.opening(0, 0, 1, 1);
        due("dot(1, 31, 23, 1), not OPEN", x.dot(1, 31, 23, 1), 0);
        due("dot(1, 31, 23, 1)", x.dot(1, 31, 23, 1), 1);
        due("at(1, 31, 23)", x.at(1, 31, 23), 1);
        due("told(5)", x.told(5), 3);
        due("dot(1, 31, 23, 0)", x.dot(1, 31, 23, 0), 1);
        due("at(1, 31, 23)", x.at(1, 31, 23), 0);
        due("dot(0, 0, 0, 1)", x.dot(0, 0, 0, 1), 0);
        due("row(0, 0)", x.row(0, 0), LOW);
        due("of(2, 0)", x.of(2, 0), 0);
        int[][] wrong = {{-1, 0, 0, 0}, {3, 0, 0, 0}, {0, -1, 0, 0}, {0, 32, 0, 0}, {0, 0, -1, 0}, {0, 0, 24, 0},
            {0, 0, 0, -1}, {0, 0, 0, 2}, {LOW, LOW, LOW, LOW}, {HIGH, HIGH, HIGH, HIGH}};
        for (int k = 0; k < wrong.length; k++) {
            refused("dot wrong " + k, x, x.dot(wrong[k][0], wrong[k][1], wrong[k][2], wrong[k][3]), BAD, k);
        }
        due("told(5)", x.told(5), 5);
    }

    private static void promise3() {
        PictureMoves x = new PictureMoves();
        due("pattern(0, 128)", x.pattern(0, 128), 255);
        due("pattern(0, 1)", x.pattern(0, 1), 128);
        due("pattern(7, 0)", x.pattern(7, 0), 255);
        due("joins by THE PATTERN", x.joins(0, 0, PATTERN), 6 * 32 * 3 + 4 * 3);
        due("row(0, 0)", x.row(0, 0), 0x01010101);
        due("row(0, 8)", x.row(0, 8), 0x01010101);
        due("row(0, 23)", x.row(0, 23), 0);
        due("row(0, 22)", x.row(0, 22), -1);
        due("told(5)", x.told(5), 4);
        due("back()", x.back(), 3);
        due("back()", x.back(), 2);
        due("pattern(7, 9) after back", x.pattern(7, 9), 255);
        refused("pattern(-1, 0)", x, x.pattern(-1, 0), BAD, 0);
        refused("pattern(8, 0)", x, x.pattern(8, 0), BAD, 1);
        refused("pattern(0, -1)", x, x.pattern(0, -1), BAD, 2);
        refused("pattern(0, 256)", x, x.pattern(0, 256), BAD, 3);
        refused("pattern(LOW, HIGH)", x, x.pattern(LOW, HIGH), BAD, 4);
        due("told(5)", x.told(5), 3);
    }

    private static void promise4() {
        PictureMoves x = new PictureMoves();
        x.opening(0, 0, 1, 1);
        int ones = x.draw(1, 0);
        // X from 0: 12345, by 32768 cut 0; then 12345 * 1103515245 + 12345 by 2147483648 left over is 1406932606, cut 42936.
        due("row(1, 0) of seed 0", x.row(1, 0), 42936);
        due("draw(1, 0)", ones, x.of(1, 0));
        due("draw(0, 7)", x.draw(0, 7), 381);
        due("draw(2, 999999)", x.draw(2, 999999), 370);
        due("row(2, 0)", x.row(2, 0), -791583828);
        due("row(2, 23)", x.row(2, 23), 999825321);
        due("told(5)", x.told(5), 4);
        refused("draw(-1, 0)", x, x.draw(-1, 0), BAD, 0);
        refused("draw(3, 0)", x, x.draw(3, 0), BAD, 1);
        refused("draw(0, -1)", x, x.draw(0, -1), BAD, 2);
        refused("draw(0, 1000000)", x, x.draw(0, 1000000), BAD, 3);
        due("of(0, 0)", x.of(0, 0), 381);
        due("told(5)", x.told(5), 4);
    }

    private static void promise5() {
        PictureMoves x = new PictureMoves();
        due("opening(-64, -64, 64, 64)", x.opening(-64, -64, 64, 64), 1);
        due("OPEN DOTS: none", x.of(0, 6), 0);
        due("opening(63, 63, 64, 64)", x.opening(63, 63, 64, 64), 2);
        due("OPEN DOTS: none", x.of(0, 6), 0);
        due("opening(-63, -63, 64, 64)", x.opening(-63, -63, 64, 64), 3);
        due("OPEN DOTS: one", x.of(0, 6), 1);
        due("told(5)", x.told(5), 3);
        int[][] wrong = {{-65, 0, 1, 1}, {64, 0, 1, 1}, {0, -65, 1, 1}, {0, 64, 1, 1}, {0, 0, 0, 1}, {0, 0, 65, 1},
            {0, 0, 1, 0}, {0, 0, 1, 65}, {HIGH, HIGH, HIGH, HIGH}, {LOW, LOW, LOW, LOW}};
        for (int k = 0; k < wrong.length; k++) {
            refused("opening wrong " + k, x, x.opening(wrong[k][0], wrong[k][1], wrong[k][2], wrong[k][3]), BAD, k);
        }
        due("opening(30, 22, 9, 9)", x.opening(30, 22, 9, 9), 4);
        due("OPEN DOTS: five", x.of(0, 6), 5);
        due("opening(1, 1, 1, 1)", x.opening(1, 1, 1, 1), FULL);
        due("opening(64, 1, 1, 1): BAD is first", x.opening(64, 1, 1, 1), BAD);
        due("told(2)", x.told(2), 1);
        due("told(4)", x.told(4), 4);
        due("told(5)", x.told(5), 4);
        due("back()", x.back(), 3);
        due("told(4)", x.told(4), 3);
        due("opening(31, 23, 1, 1)", x.opening(31, 23, 1, 1), 4);
        due("open(30, 22)", x.open(30, 22), 0);
        due("open(31, 23)", x.open(31, 23), 1);
    }

    private static void promise6() {
        PictureMoves x = new PictureMoves();
        due("closes() of none", x.closes(), 0);
        due("told(5)", x.told(5), 1);
        x.opening(0, 0, 1, 1);
        x.opening(1, 0, 1, 1);
        due("closes()", x.closes(), 2);
        due("told(4)", x.told(4), 0);
        due("OPEN DOTS: all", x.of(0, 6), 768);
        due("back()", x.back(), 3);
        due("told(4)", x.told(4), 2);
        due("OPEN DOTS", x.of(0, 6), 2);
    }

    private static void promise7() {
        PictureMoves x = Pictures.shown(0, "##.", "#.#");
        due("a block beside", x.move(0, 0, 0, 3, 2, 1, 2, 1, SOURCE), 4);
        Pictures.looks("a block beside", x, 1, ".....", "..##.", "..#.#");
        due("overlapping to the right and down", x.move(0, 0, 0, 3, 2, 0, 1, 1, SOURCE), 3);
        Pictures.looks("overlapping", x, 0, "##..", "###.", ".#.#");
        x.back();
        due("overlapping to the left and up", x.move(0, 1, 1, 2, 1, 0, 0, 0, SOURCE), 1);
        Pictures.looks("overlapping", x, 0, ".#.", "#.#");
        x.back();
        due("from beyond comes 0", x.move(0, -1, -1, 3, 2, 0, 0, 0, SOURCE), 4);
        Pictures.looks("from beyond", x, 0, "...", ".##");
        x.back();
        due("0 beyond, joined", x.move(0, -64, -64, 64, 64, 0, 0, 0, 15), 764);
        due("row(0, 0)", x.row(0, 0), -1);
        x.back();
        due("all beyond", x.move(0, 0, 0, 64, 64, 0, 32, 0, 255), 0);
        due("all beyond", x.move(0, 0, 0, 64, 64, 0, -64, 0, 255), 0);
        due("one within", x.move(0, 0, 0, 64, 64, 2, -63, -63, 255), 1);
        due("it is there", x.at(2, 0, 0), 1);
        due("the last one", x.move(0, 0, 0, 64, 64, 2, 31, 23, 255), 1);
        due("it is there", x.at(2, 31, 23), 1);
        x = new PictureMoves();
        x.rectangle(0, 0, 0, 32, 24, 255);
        due("a row from below the source", x.move(0, 0, 24, 32, 1, 0, 0, 5, SOURCE), 32);
        due("a row from above the source", x.move(0, 0, -1, 32, 1, 0, 0, 6, SOURCE), 32);
        due("its last row stays", x.move(0, 0, 23, 32, 1, 0, 0, 7, SOURCE), 0);
        due("a column from the right of it", x.move(0, 32, 0, 1, 5, 0, 3, 0, SOURCE), 5);
        due("a column from the left of it", x.move(0, -1, 0, 1, 5, 0, 4, 0, SOURCE), 5);
        due("its first column stays", x.move(0, 0, 0, 1, 5, 0, 5, 0, SOURCE), 0);
        byEachJoin();
        withinOpenings();
        wrongMoves();
    }

    /** DOT s, p, d of each bit 4 s and 2 p and d stands at x 0 .. 7. */
    private static void byEachJoin() {
        for (int join = 0; join < 256; join++) {
            PictureMoves x = new PictureMoves();
            for (int k = 4; k < 8; k++) {
                x.dot(0, k, 9, 1);
            }
            for (int k = 1; k < 8; k += 2) {
                x.dot(1, k, 16, 1);
            }
            x.pattern(0, 0x33);
            int changed = x.move(0, 0, 9, 8, 1, 1, 0, 16, join);
            int want = 0;
            for (int k = 0; k < 8; k++) {
                int comes = join >> k & 1;
                due("JOIN " + join + " of " + k, x.at(1, k, 16), comes);
                want += comes != (k & 1) ? 1 : 0;
            }
            due("JOIN " + join, changed, want);
            due("JOIN " + join + " elsewhere", x.row(1, 16) << 8, 0);
            due("JOIN " + join + " of the source", x.row(0, 9), 0x0f000000);
        }
    }

    private static void withinOpenings() {
        PictureMoves x = new PictureMoves();
        x.opening(1, 1, 2, 1);
        x.opening(2, 1, 2, 2);
        due("within OPENINGS", x.move(0, 0, 0, 9, 9, 1, 0, 0, 255), 5);
        Pictures.looks("within OPENINGS", x, 1, ".....", ".###.", "..##.", ".....");
        due("turned twice: each DOT once", x.move(1, 0, 0, 9, 9, 1, 0, 0, TURNED), 5);
        due("none", x.of(1, 0), 0);
    }

    private static void wrongMoves() {
        PictureMoves x = new PictureMoves();
        int[] right = {0, 0, 0, 1, 1, 0, 0, 0, 255};
        int[][] bounds = {{0, 2}, {-64, 63}, {-64, 63}, {1, 64}, {1, 64}, {0, 2}, {-64, 63}, {-64, 63}, {0, 255}};
        int bads = 0;
        for (int k = 0; k < right.length; k++) {
            int[] beyond = {bounds[k][0] - 1, bounds[k][1] + 1, LOW, HIGH};
            for (int wrong : beyond) {
                int[] a = right.clone();
                a[k] = wrong;
                refused("move, number " + k + " being " + wrong, x,
                    x.move(a[0], a[1], a[2], a[3], a[4], a[5], a[6], a[7], a[8]), BAD, bads);
                bads++;
            }
        }
        due("told(5)", x.told(5), 0);
        due("of(0, 0)", x.of(0, 0), 0);
        for (int k = 0; k < right.length; k++) {
            for (int edge : bounds[k]) {
                int[] a = right.clone();
                a[k] = edge;
                Due.holds("move, number " + k + " being " + edge, x.move(a[0], a[1], a[2], a[3], a[4], a[5], a[6], a[7], a[8]) >= 0);
            }
        }
        due("told(0)", x.told(0), bads);
    }

    private static void promise8() {
        PictureMoves x = new PictureMoves();
        due("a DOT alone", x.line(0, 3, 2, 3, 2, 255), 1);
        Pictures.looks("a DOT alone", x, 0, "....", "....", "...#");
        x = new PictureMoves();
        due("right and down", x.line(0, 0, 0, 4, 1, 255), 5);
        Pictures.looks("right and down", x, 0, "##...", "..###");
        x = new PictureMoves();
        due("left and up", x.line(0, 4, 1, 0, 0, 255), 5);
        Pictures.looks("left and up", x, 0, "##...", "..###");
        x = new PictureMoves();
        due("right and up", x.line(0, 0, 1, 4, 0, 255), 5);
        Pictures.looks("right and up", x, 0, "...##", "###..");
        x = new PictureMoves();
        due("down and left", x.line(0, 1, 0, 0, 4, 255), 5);
        Pictures.looks("down and left", x, 0, ".#", ".#", ".#", "#.", "#.");
        x = new PictureMoves();
        due("aslant", x.line(0, 0, 3, 3, 0, 255), 4);
        Pictures.looks("aslant", x, 0, "...#", "..#.", ".#..", "#...");
        x = new PictureMoves();
        due("two DOTS", x.line(0, 1, 0, 1, 1, 255), 2);
        due("two DOTS aslant", x.line(0, 4, 1, 3, 0, 255), 2);
        Pictures.looks("two DOTS each", x, 0, ".#.#.", ".#..#");
        due("a level one, far down", x.line(0, 20, 20, 22, 20, 255), 3);
        due("an upright one, far right", x.line(0, 30, 20, 30, 22, 255), 3);
        due("row(0, 20)", x.row(0, 20), 0x00000E02);
        x = new PictureMoves();
        due("far beyond", x.line(0, -64, 0, 63, -1, 255), lineDots(-64, 0, 63, -1));
        x = new PictureMoves();
        x.opening(2, 0, 2, 24);
        due("only OPEN ones", x.line(0, -64, 0, 63, 0, 255), 2);
        due("by turning", x.line(0, 0, 0, 31, 0, TURNED), 2);
        due("by what is there", x.line(0, 0, 0, 31, 0, THERE), 0);
        due("s is 1", x.line(0, 2, 5, 2, 5, SOURCE), 1);
        due("told(5)", x.told(5), 5);
        x.pattern(6, 0);
        due("by THE PATTERN", x.line(0, 2, 4, 2, 7, PATTERN), 2);
        due("it is so", x.count(0, 2, 4, 1, 4), 3);
        due("to the far edges", new PictureMoves().line(2, -64, -64, 63, 63, 255), 24);
        int[][] wrong = {{3, 0, 0, 0, 0, 0}, {-1, 0, 0, 0, 0, 0}, {0, 64, 0, 0, 0, 0}, {0, -65, 0, 0, 0, 0},
            {0, 0, 64, 0, 0, 0}, {0, 0, -65, 0, 0, 0}, {0, 0, 0, 64, 0, 0}, {0, 0, 0, -65, 0, 0}, {0, 0, 0, 0, 64, 0},
            {0, 0, 0, 0, -65, 0}, {0, 0, 0, 0, 0, 256}, {0, 0, 0, 0, 0, -1}, {0, LOW, HIGH, HIGH, LOW, 0}};
        for (int k = 0; k < wrong.length; k++) {
            int[] a = wrong[k];
            refused("line wrong " + k, x, x.line(a[0], a[1], a[2], a[3], a[4], a[5]), BAD, k);
        }
        due("told(5)", x.told(5), 6);
    }

    /** How many DOTS of a LINE that goes by x lie within the picture. */
    private static int lineDots(int x0, int y0, int x1, int y1) {
        int n = x1 - x0;
        int within = 0;
        for (int i = 0; i <= n; i++) {
            int y = y0 + Math.floorDiv((y1 - y0) * 2 * i + n, 2 * n);
            within += x0 + i >= 0 && x0 + i < 32 && y >= 0 && y < 24 ? 1 : 0;
        }
        return within;
    }

    private static void promise9() {
        PictureMoves x = Pictures.shown(0, "###..", "#.#.#", "###.#", "...#.");
        due("a hole", x.flood(0, 1, 1), 1);
        Pictures.looks("a hole", x, 0, "###..", "###.#", "###.#", "...#.");
        due("a block", x.flood(0, 0, 0), 9);
        Pictures.looks("a block", x, 0, ".....", "....#", "....#", "...#.");
        due("not over corners", x.flood(0, 4, 1), 2);
        Pictures.looks("not over corners", x, 0, ".....", ".....", ".....", "...#.");
        due("all around", x.flood(0, 31, 23), 767);
        due("all of it", x.flood(0, 3, 3), 768);
        due("none is left", x.of(0, 0), 0);
        x = new PictureMoves();
        x.opening(0, 0, 2, 2);
        x.opening(2, 1, 2, 2);
        x.opening(5, 0, 3, 3);
        due("over two OPENINGS that touch", x.flood(1, 0, 0), 8);
        Pictures.looks("over two OPENINGS", x, 1, "##......", "####....", "..##....");
        due("not OPEN", x.flood(1, 4, 0), NO);
        due("beyond", x.flood(1, 32, 0), NO);
        due("beyond", x.flood(1, -1, 0), NO);
        due("beyond", x.flood(1, 0, 24), NO);
        due("beyond", x.flood(1, -64, 63), NO);
        due("told(1)", x.told(1), 5);
        due("told(5)", x.told(5), 4);
        refused("flood(3, 0, 0)", x, x.flood(3, 0, 0), BAD, 0);
        refused("flood(-1, 40, 0)", x, x.flood(-1, 40, 0), BAD, 1);
        refused("flood(0, 64, 0)", x, x.flood(0, 64, 0), BAD, 2);
        refused("flood(0, 0, 64)", x, x.flood(0, 0, 64), BAD, 3);
        refused("flood(0, -65, 0)", x, x.flood(0, -65, 0), BAD, 4);
        refused("flood(0, 0, -65)", x, x.flood(0, 0, -65), BAD, 5);
        due("told(1)", x.told(1), 5);
        due("a long way", aWindingWay().flood(0, 0, 0), 32 * 12 + 11);
        due("a long way up and down", aWayUpAndDown().flood(0, 0, 0), 24 * 16 + 15);
        due("and from its end", aWayUpAndDown().flood(0, 30, 0), 24 * 16 + 15);
    }

    /** A way of 0s that goes up and down through the whole picture, with as many runs as there can be in one. */
    private static PictureMoves aWayUpAndDown() {
        PictureMoves x = new PictureMoves();
        for (int k = 1; k < 32; k += 2) {
            x.rectangle(0, k, k == 31 || k % 4 == 1 ? 0 : 1, 1, k == 31 ? 24 : 23, 255);
        }
        return x;
    }

    /** A way of 0s that goes to and fro through the whole picture. */
    private static PictureMoves aWindingWay() {
        PictureMoves x = new PictureMoves();
        for (int y = 1; y < 24; y += 2) {
            x.rectangle(0, y % 4 == 1 ? 0 : 1, y, 31, 1, 255);
        }
        x.dot(0, 0, 23, 1);
        return x;
    }

    private static void promise10() {
        PictureMoves x = new PictureMoves();
        due("a rectangle", x.rectangle(0, 1, 1, 2, 1, SOURCE), 2);
        Pictures.looks("a rectangle", x, 0, "....", ".##.", "....");
        due("turned", x.rectangle(0, 0, 0, 4, 2, TURNED), 8);
        Pictures.looks("turned", x, 0, "####", "#..#", "....");
        due("all", x.rectangle(0, -20, -20, 64, 64, 255), 762);
        due("one at the edge", x.rectangle(0, -63, -63, 64, 64, 0), 1);
        due("none", x.rectangle(0, -64, 0, 64, 64, 0), 0);
        due("one at the other edge", x.rectangle(0, 31, 23, 64, 64, 0), 1);
        due("none", x.rectangle(0, 32, 23, 64, 64, 0), 0);
        x.opening(3, 3, 2, 2);
        due("only OPEN ones", x.rectangle(1, 0, 0, 32, 24, 255), 4);
        Pictures.looks("only OPEN ones", x, 1, "", "", "", "...##", "...##");
        x.pattern(3, 0x10);
        due("by THE PATTERN", x.rectangle(1, 0, 0, 32, 24, PATTERN), 1);
        Pictures.looks("by THE PATTERN", x, 1, "", "", "", "...#.", "...##");
        due("told(5)", x.told(5), 6);
        int[][] wrong = {{3, 0, 0, 1, 1, 0}, {-1, 0, 0, 1, 1, 0}, {0, 64, 0, 1, 1, 0}, {0, -65, 0, 1, 1, 0},
            {0, 0, 64, 1, 1, 0}, {0, 0, -65, 1, 1, 0}, {0, 0, 0, 0, 1, 0}, {0, 0, 0, 65, 1, 0}, {0, 0, 0, 1, 0, 0},
            {0, 0, 0, 1, 65, 0}, {0, 0, 0, 1, 1, 256}, {0, 0, 0, 1, 1, -1}, {0, 0, 0, HIGH, LOW, 0}};
        for (int k = 0; k < wrong.length; k++) {
            int[] a = wrong[k];
            refused("rectangle wrong " + k, x, x.rectangle(a[0], a[1], a[2], a[3], a[4], a[5]), BAD, k);
        }
        due("of(1, 0)", x.of(1, 0), 3);
    }

    private static void promise11() {
        PictureMoves x = new PictureMoves();
        due("LETTER 5", x.letter(0, 5, 0, 0, SOURCE), 7);
        Pictures.looks("LETTER 5", x, 0, "#.#.", "##.#", "....", "..##");
        x = new PictureMoves();
        due("LETTER 0", x.letter(0, 0, 1, 1, SOURCE), 6);
        Pictures.looks("LETTER 0", x, 0, "", ".....", "...##", "..##.", ".#..#");
        x = new PictureMoves();
        due("LETTER 15", x.letter(0, 15, 0, 0, SOURCE), 6);
        Pictures.looks("LETTER 15", x, 0, "....", "..##", ".##.", "#..#");
        due("its 0s, too, come", x.letter(0, 0, 0, 0, 15), 16);
        x = new PictureMoves();
        due("all 4 by 4", x.letter(1, 7, 28, 20, 255), 16);
        due("four of them", x.letter(1, 7, 30, 22, 0), 4);
        due("one of them", x.letter(1, 7, -3, -3, 255), 1);
        due("beyond", x.letter(1, 7, -4, 0, 255), 0);
        due("beyond", x.letter(1, 7, 63, -64, 255), 0);
        x.opening(0, 0, 3, 2);
        due("only OPEN ones", x.letter(2, 7, 1, 1, 255), 2);
        due("told(5)", x.told(5), 6);
        int[][] wrong = {{3, 0, 0, 0, 0}, {-1, 0, 0, 0, 0}, {0, 16, 0, 0, 0}, {0, -1, 0, 0, 0}, {0, 0, 64, 0, 0},
            {0, 0, -65, 0, 0}, {0, 0, 0, 64, 0}, {0, 0, 0, -65, 0}, {0, 0, 0, 0, 256}, {0, 0, 0, 0, -1}, {0, HIGH, LOW, 0, 0}};
        for (int k = 0; k < wrong.length; k++) {
            int[] a = wrong[k];
            refused("letter wrong " + k, x, x.letter(a[0], a[1], a[2], a[3], a[4]), BAD, k);
        }
    }

    private static void promise12() {
        PictureMoves x = Pictures.shown(0, "##..");
        x.dot(1, 1, 0, 1);
        x.dot(1, 2, 0, 1);
        due("0 at all", x.joins(0, 1, 0), 2);
        due("1 at all", x.joins(0, 1, 255), 768);
        x.back();
        x.back();
        due("both", x.joins(0, 1, 0xA0), 1);
        Pictures.looks("both", x, 1, ".#..");
        x.back();
        due("either", x.joins(0, 1, 0xFA), 1);
        Pictures.looks("either", x, 1, "###.");
        Pictures.looks("the source", x, 0, "##..");
        due("with itself", x.joins(1, 1, TURNED), 768);
        due("of(1, 0)", x.of(1, 0), 765);
        x.opening(0, 0, 2, 1);
        due("only OPEN ones", x.joins(0, 2, 15), 0);
        due("only OPEN ones", x.joins(0, 2, SOURCE), 2);
        x.pattern(0, 0x40);
        due("by THE PATTERN", x.joins(0, 2, 0x30), 1);
        Pictures.looks("by THE PATTERN", x, 2, "#...");
        due("told(5)", x.told(5), 6);
        refused("joins(3, 0, 0)", x, x.joins(3, 0, 0), BAD, 0);
        refused("joins(-1, 0, 0)", x, x.joins(-1, 0, 0), BAD, 1);
        refused("joins(0, 3, 0)", x, x.joins(0, 3, 0), BAD, 2);
        refused("joins(0, -1, 0)", x, x.joins(0, -1, 0), BAD, 3);
        refused("joins(0, 0, 256)", x, x.joins(0, 0, 256), BAD, 4);
        refused("joins(0, 0, -1)", x, x.joins(0, 0, -1), BAD, 5);
    }

    private static void promise13() {
        PictureMoves x = Pictures.shown(0, "##.#");
        x.opening(9, 9, 1, 1);
        due("mirrored", x.changes(0, 0), 6);
        due("row(0, 0)", x.row(0, 0), 0xB);
        due("upside down", x.changes(0, 1), 6);
        due("row(0, 23)", x.row(0, 23), 0xB);
        due("row(0, 0)", x.row(0, 0), 0);
        x = new PictureMoves();
        x.dot(0, 31, 0, 1);
        due("mirrored from the right edge", x.changes(0, 0), 2);
        due("row(0, 0)", x.row(0, 0), LOW);
        due("mirrored from the left edge", x.changes(0, 0), 2);
        due("row(0, 0)", x.row(0, 0), 1);
        x = Pictures.shown(1, "#...", "....", "....", "...#");
        x.opening(9, 9, 1, 1);
        due("grown", x.changes(1, 2), 6);
        Pictures.looks("grown", x, 1, "##...", "#....", "...#.", "..###", "...#.");
        due("thinned", x.changes(1, 3), 7);
        Pictures.looks("thinned", x, 1, ".....", ".....", ".....", "...#.");
        x = Pictures.shown(2, "####", "####", "####");
        due("its edge", x.changes(2, 4), 2);
        Pictures.looks("its edge", x, 2, "####", "#..#", "####");
        x = new PictureMoves();
        x.dot(0, 31, 23, 1);
        x.dot(0, 0, 0, 1);
        due("grown at the edges", x.changes(0, 2), 4);
        due("not round", x.of(0, 0), 6);
        x.rectangle(0, 0, 0, 32, 24, 255);
        due("thinned: beyond is 0", x.changes(0, 3), 108);
        due("of(0, 2)", x.of(0, 2), 1);
        due("of(0, 5)", x.of(0, 5), 22);
        due("told(5)", x.told(5), 5);
        refused("changes(3, 0)", x, x.changes(3, 0), BAD, 0);
        refused("changes(-1, 0)", x, x.changes(-1, 0), BAD, 1);
        refused("changes(0, 5)", x, x.changes(0, 5), BAD, 2);
        refused("changes(0, -1)", x, x.changes(0, -1), BAD, 3);
        due("told(5)", x.told(5), 5);
    }

    private static void promise14() {
        PictureMoves x = Pictures.shown(0, "#.");
        x.opening(9, 9, 1, 1);
        due("rolls(0, 0, 0)", x.rolls(0, 0, 0), 0);
        due("rolls(0, 1, 2)", x.rolls(0, 1, 2), 2);
        due("at(0, 1, 2)", x.at(0, 1, 2), 1);
        due("rolls(0, -2, -3)", x.rolls(0, -2, -3), 2);
        due("at(0, 31, 23)", x.at(0, 31, 23), 1);
        due("rolls(0, 31, 31)", x.rolls(0, 31, 31), 2);
        due("at(0, 30, 6)", x.at(0, 30, 6), 1);
        due("rolls(0, -31, -31)", x.rolls(0, -31, -31), 2);
        due("at(0, 31, 23)", x.at(0, 31, 23), 1);
        due("rolls(0, 0, 24)", x.rolls(0, 0, 24), 0);
        due("rolls(0, 0, -24)", x.rolls(0, 0, -24), 0);
        due("of(0, 0)", x.of(0, 0), 1);
        due("told(5)", x.told(5), 6);
        refused("rolls(3, 0, 0)", x, x.rolls(3, 0, 0), BAD, 0);
        refused("rolls(-1, 0, 0)", x, x.rolls(-1, 0, 0), BAD, 1);
        refused("rolls(0, 32, 0)", x, x.rolls(0, 32, 0), BAD, 2);
        refused("rolls(0, -32, 0)", x, x.rolls(0, -32, 0), BAD, 3);
        refused("rolls(0, 0, 32)", x, x.rolls(0, 0, 32), BAD, 4);
        refused("rolls(0, 0, -32)", x, x.rolls(0, 0, -32), BAD, 5);
    }

    private static void promise15() {
        PictureMoves x = new PictureMoves();
        x.rectangle(1, 0, 0, 32, 24, 255);
        due("at(1, 0, 0)", x.at(1, 0, 0), 1);
        due("at(1, 31, 23)", x.at(1, 31, 23), 1);
        due("at(0, 31, 23)", x.at(0, 31, 23), 0);
        int[][] beyond = {{-1, 0}, {32, 0}, {0, -1}, {0, 24}, {99, 0}, {LOW, 0}, {HIGH, 0}, {0, LOW}, {0, HIGH}, {-32, 0}, {64, 0}};
        for (int[] p : beyond) {
            due("at(1, " + p[0] + ", " + p[1] + ")", x.at(1, p[0], p[1]), 0);
        }
        due("told(0)", x.told(0), 0);
        refused("at(3, 0, 0)", x, x.at(3, 0, 0), BAD, 0);
        refused("at(-1, 99, 0)", x, x.at(-1, 99, 0), BAD, 1);
        due("told(5): at leaves no STATE", x.told(5), 1);
    }

    private static void promise16() {
        PictureMoves x = Pictures.shown(2, "", "#..#");
        due("row(2, 1)", x.row(2, 1), 0x90000000);
        x.dot(2, 31, 23, 1);
        due("row(2, 23)", x.row(2, 23), 1);
        x.rectangle(1, 0, 0, 32, 24, 255);
        refused("row(1, -1)", x, x.row(1, -1), 0, 0);
        refused("row(1, 24)", x, x.row(1, 24), 0, 1);
        refused("row(3, 0)", x, x.row(3, 0), 0, 2);
        refused("row(-1, 0)", x, x.row(-1, 0), 0, 3);
        due("row(1, 0)", x.row(1, 0), -1);
        due("told(0)", x.told(0), 4);
    }

    private static void promise17() {
        PictureMoves x = Pictures.shown(1, "", "..#.#", ".#.##", "..#..");
        int[] want = {6, 4, 1, 4, 1, 3, 768};
        for (int what = 0; what < want.length; what++) {
            due("of(1, " + what + ")", x.of(1, what), want[what]);
        }
        int[] none = {0, 0, NONE, NONE, NONE, NONE, 768};
        for (int what = 0; what < none.length; what++) {
            due("of(0, " + what + ")", x.of(0, what), none[what]);
        }
        x.dot(2, 31, 23, 1);
        int[] last = {1, 1, 31, 31, 23, 23, 768};
        for (int what = 0; what < last.length; what++) {
            due("of(2, " + what + ")", x.of(2, what), last[what]);
        }
        x.dot(0, 0, 0, 1);
        int[] first = {1, 1, 0, 0, 0, 0, 768};
        for (int what = 0; what < first.length; what++) {
            due("of(0, " + what + ")", x.of(0, what), first[what]);
        }
        x.dot(0, 0, 0, 0);
        x.opening(-1, -1, 3, 3);
        x.opening(1, 1, 2, 2);
        due("of(0, 6)", x.of(0, 6), 7);
        due("PARTS are told of all DOTS", x.of(1, 1), 4);
        due("PARTS of chequers", chequers().of(0, 1), 384);
        PictureMoves way = aWindingWay();
        way.joins(0, 0, TURNED);
        due("PARTS of a winding way", way.of(0, 1), 1);
        way = aWayUpAndDown();
        way.joins(0, 0, TURNED);
        due("PARTS of a way up and down", way.of(0, 1), 1);
        due("told(0)", x.told(0), 0);
        refused("of(3, 0)", x, x.of(3, 0), BAD, 0);
        refused("of(-1, 0)", x, x.of(-1, 0), BAD, 1);
        refused("of(0, 7)", x, x.of(0, 7), BAD, 2);
        refused("of(0, -1)", x, x.of(0, -1), BAD, 3);
    }

    private static PictureMoves chequers() {
        PictureMoves x = new PictureMoves();
        for (int y = 0; y < 8; y++) {
            x.pattern(y, y % 2 == 0 ? 0xAA : 0x55);
        }
        x.joins(0, 0, PATTERN);
        return x;
    }

    private static void promise18() {
        PictureMoves x = Pictures.shown(0, "##.#", "..##");
        due("count(0, 1, 0, 2, 2)", x.count(0, 1, 0, 2, 2), 2);
        due("count(0, 1, 0, 2, 1)", x.count(0, 1, 0, 2, 1), 1);
        due("count(0, 2, 1, 1, 1)", x.count(0, 2, 1, 1, 1), 1);
        due("count(0, -64, -64, 64, 64)", x.count(0, -64, -64, 64, 64), 0);
        due("count(0, -63, -63, 64, 64)", x.count(0, -63, -63, 64, 64), 1);
        due("count(0, -20, -20, 64, 64)", x.count(0, -20, -20, 64, 64), 5);
        due("count(0, 63, 63, 64, 64)", x.count(0, 63, 63, 64, 64), 0);
        x.opening(30, 20, 1, 1);
        due("count whether OPEN or not", x.count(0, 0, 0, 4, 2), 5);
        x.dot(0, 31, 23, 1);
        due("count(0, 31, 23, 64, 64)", x.count(0, 31, 23, 64, 64), 1);
        int[][] wrong = {{3, 0, 0, 1, 1}, {-1, 0, 0, 1, 1}, {0, 64, 0, 1, 1}, {0, -65, 0, 1, 1}, {0, 0, 64, 1, 1},
            {0, 0, -65, 1, 1}, {0, 0, 0, 0, 1}, {0, 0, 0, 65, 1}, {0, 0, 0, 1, 0}, {0, 0, 0, 1, 65}, {0, HIGH, HIGH, HIGH, HIGH}};
        for (int k = 0; k < wrong.length; k++) {
            int[] a = wrong[k];
            refused("count wrong " + k, x, x.count(a[0], a[1], a[2], a[3], a[4]), BAD, k);
        }
    }

    private static void promise19() {
        PictureMoves x = Pictures.shown(0, "##.#");
        x.dot(1, 1, 0, 1);
        x.dot(1, 31, 23, 1);
        x.opening(9, 9, 1, 1);
        due("unlike(0, 1)", x.unlike(0, 1), 3);
        due("unlike(1, 0)", x.unlike(1, 0), 3);
        due("unlike(0, 2)", x.unlike(0, 2), 3);
        due("unlike(1, 1)", x.unlike(1, 1), 0);
        refused("unlike(3, 0)", x, x.unlike(3, 0), BAD, 0);
        refused("unlike(-1, 0)", x, x.unlike(-1, 0), BAD, 1);
        refused("unlike(0, 3)", x, x.unlike(0, 3), BAD, 2);
        refused("unlike(0, -1)", x, x.unlike(0, -1), BAD, 3);
    }

    private static void promise20() {
        PictureMoves x = Pictures.shown(0, "##.##", "#..#.");
        due("a block that stands twice", x.finds(0, 0, 0, 2, 2, 0), 2);
        due("once with its 0s", x.finds(0, 0, 0, 3, 2, 0), 2);
        due("once", x.finds(0, 2, 0, 3, 2, 0), 1);
        due("not in the other one", x.finds(0, 0, 0, 2, 2, 1), 0);
        due("a 0 in the other one", x.finds(0, 2, 0, 1, 1, 1), 768);
        due("all places of 8 by 8", x.finds(1, 24, 16, 8, 8, 2), 25 * 17);
        due("all places of 8 by 1", x.finds(1, 24, 23, 8, 1, 2), 25 * 24);
        due("all places of 1 by 8", x.finds(1, 31, 16, 1, 8, 2), 32 * 17);
        x.dot(1, 31, 23, 1);
        x.opening(0, 0, 1, 1);
        due("at the last place", x.finds(1, 31, 23, 1, 1, 1), 1);
        due("at the last place", x.finds(1, 30, 22, 2, 2, 1), 1);
        due("not round", x.finds(0, 3, 0, 2, 1, 0), 2);
        long before = x.digest();
        int[][] wrong = {{3, 0, 0, 1, 1, 0}, {-1, 0, 0, 1, 1, 0}, {0, -1, 0, 1, 1, 0}, {0, 32, 0, 1, 1, 0}, {0, 0, -1, 1, 1, 0},
            {0, 0, 24, 1, 1, 0}, {0, 0, 0, 0, 1, 0}, {0, 0, 0, 9, 1, 0}, {0, 0, 0, 1, 0, 0}, {0, 0, 0, 1, 9, 0}, {0, 25, 0, 8, 1, 0},
            {0, 0, 17, 1, 8, 0}, {0, 0, 0, 1, 1, 3}, {0, 0, 0, 1, 1, -1}, {0, HIGH, HIGH, 8, 8, 0}, {0, LOW, LOW, LOW, LOW, 0}};
        for (int k = 0; k < wrong.length; k++) {
            int[] a = wrong[k];
            refused("finds wrong " + k, x, x.finds(a[0], a[1], a[2], a[3], a[4], a[5]), BAD, k);
        }
        Due.holds("refusals are in the digest", before != x.digest());
    }

    private static void promise21() {
        PictureMoves x = new PictureMoves();
        due("open(0, 0) without OPENINGS", x.open(0, 0), 1);
        due("open(31, 23) without OPENINGS", x.open(31, 23), 1);
        x.opening(2, 3, 4, 5);
        due("open(2, 3)", x.open(2, 3), 1);
        due("open(5, 7)", x.open(5, 7), 1);
        due("open(1, 3)", x.open(1, 3), 0);
        due("open(6, 3)", x.open(6, 3), 0);
        due("open(2, 2)", x.open(2, 2), 0);
        due("open(2, 8)", x.open(2, 8), 0);
        x.opening(-5, -5, 6, 6);
        due("open(0, 0)", x.open(0, 0), 1);
        due("open(1, 0)", x.open(1, 0), 0);
        refused("open(-1, 0)", x, x.open(-1, 0), BAD, 0);
        refused("open(32, 0)", x, x.open(32, 0), BAD, 1);
        refused("open(0, -1)", x, x.open(0, -1), BAD, 2);
        refused("open(0, 24)", x, x.open(0, 24), BAD, 3);
        refused("open(LOW, HIGH)", x, x.open(LOW, HIGH), BAD, 4);
    }

    /** Promises 22 to 24 (type, clear, does) stand in PictureMovesTexts; here what they share with the others. */
    private static void promises22To24() {
        PictureMoves x = new PictureMoves();
        due("clear() of a new one", x.clear(), 0);
        due("type(107)", x.type('k'), 1);
        due("type(59)", x.type(';'), 2);
        due("does()", x.does(), 0);
        due("told(5)", x.told(5), 1);
        due("told(3): does leaves THE TEXT", x.told(3), 2);
        due("clear()", x.clear(), 2);
        due("does() of an empty one", x.does(), -10);
        due("told(5)", x.told(5), 1);
        due("told(0)", x.told(0) + x.told(1) + x.told(2), 0);
    }

    private static void promise25() {
        PictureMoves x = new PictureMoves();
        due("back() of a new one", x.back(), NO);
        due("told(1)", x.told(1), 1);
        for (int k = 0; k < 8; k++) {
            x.dot(0, k, 0, 1);
            due("told(5)", x.told(5), Math.min(k + 1, 6));
        }
        for (int left = 5; left >= 0; left--) {
            due("back()", x.back(), left);
            due("of(0, 0)", x.of(0, 0), 2 + left);
        }
        due("back(): older ones are lost", x.back(), NO);
        due("of(0, 0)", x.of(0, 0), 2);
        due("told(1)", x.told(1), 2);
        x.pattern(3, 7);
        x.opening(1, 2, 3, 4);
        x.closes();
        x.type('k');
        x.dot(9, 9, 9, 9);
        due("back()", x.back(), 2);
        due("OPENINGS come back", x.told(4), 1);
        due("back()", x.back(), 1);
        due("back()", x.back(), 0);
        due("THE PATTERN comes back", x.pattern(3, 8), 255);
        due("THE TEXT stays", x.told(3), 1);
        due("how often refused stays", x.told(0), 1);
        statesInTurn();
    }

    /** Back and forth through the ring of STATES, farther than it is long. */
    private static void statesInTurn() {
        PictureMoves x = new PictureMoves();
        for (int round = 0; round < 10; round++) {
            for (int k = 0; k < 3; k++) {
                x.dot(1, (3 * round + k) % 32, 3, 1);
            }
            int ones = x.of(1, 0);
            int left = x.told(5);
            due("back()", x.back(), left - 1);
            due("of(1, 0)", x.of(1, 0), ones - 1);
        }
        long before = x.digest();
        x.changes(1, 2);
        x.changes(1, 7);
        x.back();
        Due.holds("a refusal is in the digest", before != x.digest());
    }

    private static void eachStateCallLeavesOne() {
        PictureMoves x = new PictureMoves();
        int[] answers = {x.joins(0, 0, THERE), x.changes(0, 0), x.rolls(0, 0, 0), x.line(0, 0, 0, 0, 0, THERE), x.closes(), x.move(0, 0, 0, 1, 1, 0, 0, 0, THERE)};
        for (int answer : answers) {
            due("a call that changes nothing", answer, 0);
        }
        due("leaves a STATE all the same", x.told(5), 6);
        for (int k = 0; k < 3; k++) {
            x.back();
        }
        x.rectangle(0, 0, 0, 1, 1, THERE);
        x.letter(0, 0, 0, 0, THERE);
        x.flood(0, 0, 0);
        due("told(5)", x.told(5), 6);
        x.at(0, 0, 0);
        x.row(0, 0);
        x.of(0, 1);
        x.count(0, 0, 0, 1, 1);
        x.unlike(0, 1);
        x.finds(0, 0, 0, 1, 1, 0);
        x.open(0, 0);
        x.told(0);
        x.digest();
        x.back();
        due("what only tells leaves none", x.told(5), 5);
        due("of(0, 0)", x.of(0, 0), 0);
    }

    private static void promise26() {
        PictureMoves x = new PictureMoves();
        refused("told(-1)", x, x.told(-1), BAD, 0);
        refused("told(6)", x, x.told(6), BAD, 1);
        refused("told(LOW)", x, x.told(LOW), BAD, 2);
        refused("told(HIGH)", x, x.told(HIGH), BAD, 3);
        x.back();
        x.flood(0, 32, 0);
        for (int k = 0; k < 5; k++) {
            x.opening(0, 0, 1, 1);
        }
        x.type('k');
        int[] want = {4, 2, 1, 1, 4, 4};
        for (int what = 0; what < want.length; what++) {
            due("told(" + what + ")", x.told(what), want[what]);
        }
    }

    private static void promise27() {
        PictureMoves x = Pictures.shown(0, "#");
        x.dot(2, 31, 23, 1);
        x.pattern(1, 5);
        x.opening(-1, 2, 3, 4);
        x.opening(5, 6, 7, 8);
        x.type('k');
        x.told(9);
        x.flood(0, 63, 63);
        long h = 2083;
        int[] tallies = {1, 1, 0, 1, 2, 5};
        for (int v : tallies) {
            h = 31 * h + v;
        }
        for (int k = 0; k < 72; k++) {
            h = 31 * h + (k == 0 ? LOW : k == 71 ? 1 : 0);
        }
        for (int k = 0; k < 8; k++) {
            h = 31 * h + (k == 1 ? 5 : 255);
        }
        int[] openings = {-1, 2, 3, 4, 5, 6, 7, 8};
        for (int v : openings) {
            h = 31 * h + v;
        }
        due("digest()", x.digest(), h);
        due("digest() again", x.digest(), h);
    }

    public static void main(String[] args) {
        promise1();
        promise2();
        promise3();
        promise4();
        promise5();
        promise6();
        promise7();
        promise8();
        promise9();
        promise10();
        promise11();
        promise12();
        promise13();
        promise14();
        promise15();
        promise16();
        promise17();
        promise18();
        promise19();
        promise20();
        promise21();
        promises22To24();
        promise25();
        eachStateCallLeavesOne();
        promise26();
        promise27();
        Due.end();
    }
}
