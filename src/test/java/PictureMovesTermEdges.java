import java.util.Arrays;

/** The sentences of the document's 'Terms' that name a boundary, each with a test of its own; THE TEXT's stand in PictureMovesTextEdges. */
public final class PictureMovesTermEdges {
    private static final int BAD = PictureMoves.BAD, NO = PictureMoves.NO, FULL = PictureMoves.FULL;
    private static final int SOURCE = Pictures.SOURCE, PATTERN = Pictures.PATTERN, THERE = Pictures.THERE, TURNED = Pictures.TURNED;

    private static void due(String call, long got, long want) {
        Due.due(call, got, want);
    }

    /** "PICTURES 0 .. 2 have 24 rows of 32 DOTS, each 0 or 1 (all 0 at first)". */
    private static void picturesAreEmptyAtFirst() {
        PictureMoves x = new PictureMoves();
        for (int t = 0; t < 3; t++) {
            for (int y = 0; y < 24; y++) {
                due("row(" + t + ", " + y + ") at first", x.row(t, y), 0);
            }
        }
    }

    /** "x 0 .. 31 from the left, y 0 .. 23 from above": each corner of each PICTURE, and no other DOT by it. */
    private static void cornersOfPictures() {
        int[][] corners = {{0, 0}, {31, 0}, {0, 23}, {31, 23}};
        for (int t = 0; t < 3; t++) {
            for (int[] c : corners) {
                PictureMoves x = new PictureMoves();
                x.dot(t, c[0], c[1], 1);
                for (int u = 0; u < 3; u++) {
                    for (int y = 0; y < 24; y++) {
                        int want = u != t || y != c[1] ? 0 : c[0] == 0 ? Pictures.LOW : 1;
                        due("row(" + u + ", " + y + ") after dot(" + t + ", " + c[0] + ", " + c[1] + ", 1)", x.row(u, y), want);
                    }
                }
            }
        }
    }

    /** "THE PATTERN: 8 rows of 8 DOTS (all 1 at first)". */
    private static void patternIsFullAtFirst() {
        PictureMoves x = new PictureMoves();
        due("all by THE PATTERN at first", x.rectangle(1, 0, 0, 32, 24, PATTERN), 768);
    }

    /** "at x, y stands its DOT x by 8 left over, y by 8 left over". */
    private static void patternComesAgainAfterEight() {
        int[][] places = {{0, 0}, {7, 7}, {0, 7}, {7, 0}, {3, 5}};
        for (int[] p : places) {
            PictureMoves x = new PictureMoves();
            for (int y = 0; y < 8; y++) {
                x.pattern(y, y == p[1] ? 128 >> p[0] : 0);
            }
            due("4 by 3 DOTS of THE PATTERN's one", x.rectangle(0, 0, 0, 32, 24, PATTERN), 12);
            for (int y = 0; y < 24; y++) {
                for (int k = 0; k < 32; k++) {
                    due("THE PATTERN at " + k + ", " + y, x.at(0, k, y), k % 8 == p[0] && y % 8 == p[1] ? 1 : 0);
                }
            }
        }
    }

    /** It stands at the DOTS of the PICTURE that changes, not at those of the block or of the source. */
    private static void patternStandsStill() {
        PictureMoves x = new PictureMoves();
        for (int y = 0; y < 8; y++) {
            x.pattern(y, y == 0 ? 128 : 0);
        }
        due("a block from 3, 5 to 7, 7", x.move(1, 3, 5, 3, 3, 0, 7, 7, PATTERN), 1);
        due("at(0, 8, 8)", x.at(0, 8, 8), 1);
        due("a LETTER from 15, 15", x.letter(0, 4, 15, 15, PATTERN), 1);
        due("at(0, 16, 16)", x.at(0, 16, 16), 1);
        due("a block from beyond", x.move(1, 0, 0, 64, 64, 0, -5, -3, PATTERN), 10);
        due("at(0, 0, 0)", x.at(0, 0, 0), 1);
        due("a LINE", x.line(1, 7, 8, 9, 8, PATTERN), 1);
        due("at(1, 8, 8)", x.at(1, 8, 8), 1);
    }

    /** "JOINS 0 .. 255": in each of the calls the DOT that comes is bit 4 s and 2 p and d; s of LINE and rectangle is 1. */
    private static void eachJoinInEachCall() {
        for (int join = 0; join < 256; join++) {
            final int j = join;
            byJoin("joins", j, x -> x.joins(0, 1, j), false);
            byJoin("move", j, x -> x.move(0, 0, 8, 8, 1, 1, 0, 8, j), false);
            byJoin("rectangle", j, x -> x.rectangle(1, 0, 8, 8, 1, j), true);
            byJoin("line", j, x -> x.line(1, 7, 8, 0, 8, j), true);
        }
    }

    /** Row 8 has at x 0 .. 7 in PICTURE 0 the DOTS s, in THE PATTERN p, in PICTURE 1 d of the number x. */
    private static void byJoin(String name, int join, Pictures.Call call, boolean sourceIsOne) {
        PictureMoves x = new PictureMoves();
        x.rectangle(0, 4, 8, 4, 1, 255);
        x.pattern(0, 0x33);
        for (int k = 1; k < 8; k += 2) {
            x.dot(1, k, 8, 1);
        }
        x.opening(0, 8, 8, 1);
        long answer = call.on(x);
        int otherwise = 0;
        for (int k = 0; k < 8; k++) {
            int comes = join >> (sourceIsOne ? k | 4 : k) & 1;
            due(name + " by " + join + ": DOT " + k, x.at(1, k, 8), comes);
            otherwise += comes != (k & 1) ? 1 : 0;
        }
        due(name + " by " + join, answer, otherwise);
        due(name + " by " + join + ": PICTURE 0", x.of(0, 0), 4);
    }

    /** The same of a LETTER: all 4 by 4 by the JOIN, its 0s as s 0. */
    private static void eachJoinOfALetter() {
        for (int join = 0; join < 256; join++) {
            PictureMoves x = new PictureMoves();
            x.pattern(1, 0x66);
            x.pattern(2, 0x0F);
            x.dot(2, 4, 1, 1);
            x.dot(2, 6, 2, 1);
            int[] d = Pictures.rows(x, 2);
            int otherwise = 0;
            long answer = x.letter(2, 5, 3, 0, join);
            String[] letter = {"#.#.", "##.#", "....", "..##"};
            for (int y = 0; y < 4; y++) {
                for (int k = 3; k < 7; k++) {
                    int s = letter[y].charAt(k - 3) == '#' ? 1 : 0;
                    int row = y == 1 ? 0x66 : y == 2 ? 0x0F : 0xFF;
                    int was = Pictures.dotOf(d, k, y);
                    int comes = join >> 4 * s + 2 * (row >> 7 - k & 1) + was & 1;
                    due("LETTER by " + join + " at " + k + ", " + y, x.at(2, k, y), comes);
                    otherwise += comes != was ? 1 : 0;
                }
            }
            due("LETTER by " + join, answer, otherwise);
        }
    }

    /** "OPENINGS: rectangles, 4 at most (none at first)". */
    private static void fourOpeningsAtMost() {
        PictureMoves x = new PictureMoves();
        due("told(4) at first", x.told(4), 0);
        for (int k = 1; k <= 4; k++) {
            due("opening " + k, x.opening(k, 0, 1, 1), k);
        }
        due("opening 5", x.opening(5, 0, 1, 1), FULL);
        due("open(5, 0)", x.open(5, 0), 0);
        due("back()", x.back(), 3);
        due("the 4th again", x.opening(6, 0, 1, 1), 4);
        due("open(4, 0)", x.open(4, 0), 0);
        due("open(6, 0)", x.open(6, 0), 1);
        due("closes()", x.closes(), 4);
        for (int k = 1; k <= 4; k++) {
            due("opening " + k + " again", x.opening(k + 10, 0, 1, 1), k);
        }
        due("opening 5 again", x.opening(5, 0, 1, 1), FULL);
        due("OPEN DOTS", x.of(0, 6), 4);
    }

    /** OPENINGS that were closed, or taken back, open nothing any more where others come. */
    private static void openingsThatWere() {
        for (int there = 0; there <= 3; there++) {
            PictureMoves x = new PictureMoves();
            for (int k = 0; k < 4; k++) {
                x.opening(8 * k, 0, 8, 24);
            }
            x.closes();
            due("all are OPEN without any", x.of(0, 6), 768);
            for (int k = 0; k <= there; k++) {
                x.opening(k, 23, 1, 1);
                due("OPEN DOTS of new OPENINGS", x.of(0, 6), k + 1);
                due("open(31, 0)", x.open(31, 0), 0);
                due("rectangle", x.rectangle(1, 0, 0, 32, 24, TURNED), k + 1);
            }
        }
        PictureMoves x = new PictureMoves();
        for (int k = 0; k < 4; k++) {
            x.opening(8 * k, 0, 8, 24);
        }
        for (int k = 3; k > 0; k--) {
            due("back()", x.back(), k);
            due("OPEN DOTS", x.of(0, 6), 192 * k);
        }
        Pictures.types(x, "k;o3 3 1 1;r2 0 0 32 24 255;");
        due("does(), k among its ORDERS", x.does(), 1);
    }

    /** "a DOT is OPEN, if there are none or it is in one of them": the first and the last DOT on each side. */
    private static void sidesOfAnOpening() {
        PictureMoves x = new PictureMoves();
        due("without OPENINGS", x.of(2, 6), 768);
        x.opening(10, 5, 4, 3);
        for (int y = 0; y < 24; y++) {
            for (int k = 0; k < 32; k++) {
                due("open(" + k + ", " + y + ")", x.open(k, y), k >= 10 && k <= 13 && y >= 5 && y <= 7 ? 1 : 0);
            }
        }
        due("OPEN DOTS", x.of(0, 6), 12);
        x.opening(13, 7, 2, 2);
        due("a DOT in two of them counts once", x.of(0, 6), 15);
        x.opening(10, 5, 4, 3);
        due("one of them twice", x.of(0, 6), 15);
    }

    /** One OPENING that lies beyond: there is one, and no DOT is OPEN. */
    private static void openingsBeyond() {
        int[][] beyond = {{-64, 0, 64, 24}, {32, 0, 64, 24}, {0, -64, 32, 64}, {0, 24, 32, 64}, {63, 63, 64, 64}, {-64, -64, 1, 1}};
        for (int[] o : beyond) {
            PictureMoves x = new PictureMoves();
            due("opening beyond", x.opening(o[0], o[1], o[2], o[3]), 1);
            due("OPEN DOTS", x.of(0, 6), 0);
            due("rectangle", x.rectangle(0, 0, 0, 32, 24, 255), 0);
            due("flood", x.flood(0, 0, 0), NO);
            due("open(0, 0)", x.open(0, 0), 0);
            due("open(31, 23)", x.open(31, 23), 0);
        }
        int[][] within = {{-63, -63, 64, 64, 1}, {31, 23, 64, 64, 1}, {-63, 23, 64, 1, 1}, {31, -63, 1, 64, 1}, {-32, -40, 64, 64, 768},
            {0, 0, 32, 24, 768}, {-1, 0, 33, 64, 768}, {1, 0, 64, 64, 744}, {0, 1, 64, 64, 736}, {0, 0, 31, 24, 744}, {0, 0, 32, 23, 736}};
        for (int[] o : within) {
            PictureMoves x = new PictureMoves();
            x.opening(o[0], o[1], o[2], o[3]);
            due("OPEN DOTS of an opening at " + o[0] + ", " + o[1], x.of(0, 6), o[4]);
            due("rectangle within it", x.rectangle(0, -20, -20, 64, 64, 255), o[4]);
        }
    }

    /** "Nothing that is told of OPEN DOTS changes others." */
    private static void closedDotsStay() {
        for (int seed = 0; seed < 3; seed++) {
            for (int join = 0; join < 256; join += 15) {
                final int j = join;
                closedDotsStayBy("move", seed, x -> x.move(0, 0, 0, 32, 24, 1, 1, -1, j));
                closedDotsStayBy("move onto itself", seed, x -> x.move(1, 0, 0, 32, 24, 1, 1, -1, j));
                closedDotsStayBy("line", seed, x -> x.line(1, 0, 0, 31, 23, j));
                closedDotsStayBy("rectangle", seed, x -> x.rectangle(1, 0, 0, 32, 24, j));
                closedDotsStayBy("letter", seed, x -> x.letter(1, 9, 4, 4, j));
                closedDotsStayBy("joins", seed, x -> x.joins(0, 1, j));
            }
            closedDotsStayBy("flood", seed, x -> x.flood(1, 6, 6));
        }
    }

    private static void closedDotsStayBy(String name, int seed, Pictures.Call call) {
        PictureMoves x = new PictureMoves();
        x.draw(0, seed);
        x.draw(1, seed + 50);
        x.opening(5, 5, 9, 9);
        x.opening(-2, -2, 6, 6);
        int[] before = Pictures.rows(x, 1);
        long answer = call.on(x);
        int[] after = Pictures.rows(x, 1);
        int otherwise = 0;
        for (int y = 0; y < 24; y++) {
            for (int k = 0; k < 32; k++) {
                if (Pictures.dotOf(before, k, y) != Pictures.dotOf(after, k, y)) {
                    otherwise++;
                    due(name + " changed " + k + ", " + y + ", is it OPEN", x.open(k, y), 1);
                }
            }
        }
        due(name + ": how many are otherwise", answer, otherwise);
    }

    /** MOVE: "that is in it": blocks that reach over each side by all but one row or column, and by all. */
    private static void movesOverTheSides() {
        int[][] to = {{-63, 0, 24}, {-64, 0, 0}, {31, 0, 24}, {32, 0, 0}, {0, -63, 32}, {0, -64, 0}, {0, 23, 32}, {0, 24, 0},
            {-63, -63, 1}, {31, 23, 1}, {31, -63, 1}, {-63, 23, 1}, {63, 63, 0}, {-64, -64, 0}, {-32, -40, 768}};
        for (int[] p : to) {
            due("a block of 64 by 64 to " + p[0] + ", " + p[1], new PictureMoves().move(0, 0, 0, 64, 64, 1, p[0], p[1], 255), p[2]);
        }
        due("1 by 1", new PictureMoves().move(0, 0, 0, 1, 1, 1, 31, 23, 255), 1);
        due("1 by 1 beyond", new PictureMoves().move(0, 0, 0, 1, 1, 1, 32, 23, 255), 0);
        due("1 by 1 beyond", new PictureMoves().move(0, 0, 0, 1, 1, 1, 31, 24, 255), 0);
        due("1 by 1 beyond", new PictureMoves().move(0, 0, 0, 1, 1, 1, -1, 0, 255), 0);
        due("1 by 1 beyond", new PictureMoves().move(0, 0, 0, 1, 1, 1, 0, -1, 255), 0);
        due("64 by 1", new PictureMoves().move(0, 0, 0, 64, 1, 1, -32, 0, 255), 32);
        due("1 by 64", new PictureMoves().move(0, 0, 0, 1, 64, 1, 0, -40, 255), 24);
    }

    /** MOVE: "0 beyond it": a source's DOT beyond is 0, on each side, and is joined as such. */
    private static void sourcesBeyond() {
        int[][] from = {{-1, 0}, {1, 0}, {0, -1}, {0, 1}, {-31, -23}, {31, 23}, {-32, 0}, {32, 0}, {0, 24}, {0, -24}, {-64, -64}, {63, 63}};
        for (int[] p : from) {
            PictureMoves x = Pictures.full(0);
            int within = Math.max(32 - Math.abs(p[0]), 0) * Math.max(24 - Math.abs(p[1]), 0);
            due("from " + p[0] + ", " + p[1], x.move(0, p[0], p[1], 32, 24, 1, 0, 0, SOURCE), within);
            due("not s, from " + p[0] + ", " + p[1], x.move(0, p[0], p[1], 32, 24, 2, 0, 0, 15), 768 - within);
            due("onto itself from " + p[0] + ", " + p[1], x.move(0, p[0], p[1], 32, 24, 0, 0, 0, SOURCE), 768 - within);
            due("at(0, 0, 0)", x.at(0, 0, 0), within > 0 && p[0] >= 0 && p[1] >= 0 ? 1 : 0);
            due("at(0, 31, 23)", x.at(0, 31, 23), within > 0 && p[0] <= 0 && p[1] <= 0 ? 1 : 0);
        }
    }

    /** MOVE: "as it was ahead of all": blocks that overlap themselves, every way, joined with what is there. */
    private static void blocksThatOverlapThemselves() {
        int[] joins = {SOURCE, 90, 60, 150, 15, 232};
        for (int dx = -33; dx <= 33; dx += 1) {
            for (int dy = -3; dy <= 3; dy++) {
                int join = joins[Math.floorMod(dx + dy, joins.length)];
                overlaps(-16, -20, 64, 64, dx, dy, join);
                overlaps(3, 2, 20, 15, dx, dy, join);
            }
        }
        for (int dy = -25; dy <= 25; dy++) {
            overlaps(0, 0, 32, 24, 0, dy, SOURCE);
            overlaps(5, 5, 1, 19, 0, dy, 90);
        }
    }

    private static void overlaps(int fromX, int fromY, int w, int h, int dx, int dy, int join) {
        PictureMoves x = new PictureMoves();
        x.draw(2, 77);
        x.pattern(3, 0x5A);
        int[] before = Pictures.rows(x, 2);
        long answer = x.move(2, fromX, fromY, w, h, 2, fromX + dx, fromY + dy, join);
        int[] after = Pictures.rows(x, 2);
        int otherwise = 0;
        boolean alike = true;
        for (int y = 0; y < 24; y++) {
            for (int k = 0; k < 32; k++) {
                int i = k - fromX - dx;
                int n = y - fromY - dy;
                int was = Pictures.dotOf(before, k, y);
                int p = y % 8 == 3 ? 0x5A >> 7 - k % 8 & 1 : 1;
                int comes = join >> 4 * Pictures.dotOf(before, fromX + i, fromY + n) + 2 * p + was & 1;
                int want = i >= 0 && i < w && n >= 0 && n < h ? comes : was;
                alike = alike && Pictures.dotOf(after, k, y) == want;
                otherwise += want != was ? 1 : 0;
            }
        }
        String call = "move(2, " + fromX + ", " + fromY + ", " + w + ", " + h + ", 2, by " + dx + ", " + dy + ", " + join + ")";
        Due.holds(call + " onto itself", alike);
        due(call, answer, otherwise);
    }

    /** LINE: "n 0: the DOT alone". */
    private static void linesOfOneDot() {
        for (int[] p : new int[][] {{0, 0}, {31, 23}, {7, 9}}) {
            PictureMoves x = new PictureMoves();
            due("a DOT alone", x.line(0, p[0], p[1], p[0], p[1], 255), 1);
            due("it", x.at(0, p[0], p[1]), 1);
            due("no other", x.of(0, 0), 1);
            due("turned back", x.line(0, p[0], p[1], p[0], p[1], TURNED), 1);
            due("none", x.of(0, 0), 0);
        }
        for (int[] p : new int[][] {{-1, 0}, {0, -1}, {32, 0}, {0, 24}, {-64, -64}, {63, 63}}) {
            due("a DOT beyond", new PictureMoves().line(0, p[0], p[1], p[0], p[1], 255), 0);
        }
        PictureMoves x = new PictureMoves();
        x.opening(3, 3, 1, 1);
        due("a DOT that is not OPEN", x.line(0, 4, 3, 4, 3, 255), 0);
        due("a DOT that is OPEN", x.line(0, 3, 3, 3, 3, 255), 1);
    }

    /** LINE: "the n and 1 DOTS": both ends belong to it, in all eight ways. */
    private static void bothEndsOfALine() {
        int[][] ways = {{1, 0}, {1, 1}, {0, 1}, {-1, 1}, {-1, 0}, {-1, -1}, {0, -1}, {1, -1}};
        for (int[] way : ways) {
            for (int n = 1; n <= 11; n += 5) {
                PictureMoves x = new PictureMoves();
                due("a LINE by " + way[0] + ", " + way[1], x.line(1, 15, 11, 15 + n * way[0], 11 + n * way[1], 255), n + 1);
                for (int i = 0; i <= n; i++) {
                    due("its DOT " + i, x.at(1, 15 + i * way[0], 11 + i * way[1]), 1);
                }
                due("turned: each DOT once", x.line(1, 15, 11, 15 + n * way[0], 11 + n * way[1], TURNED), n + 1);
                due("none is left", x.of(1, 0), 0);
            }
        }
    }

    /** LINE: "by 2 n, rounded down": below 0, too, so that a half goes the same way from either end. */
    private static void halvesAreRoundedDown() {
        lineLooks(0, 0, 2, 1, "#..", ".##");
        lineLooks(2, 1, 0, 0, "#..", ".##");
        lineLooks(0, 1, 2, 0, "..#", "##.");
        lineLooks(2, 0, 0, 1, "..#", "##.");
        lineLooks(0, 0, 1, 2, "#.", ".#", ".#");
        lineLooks(1, 2, 0, 0, "#.", ".#", ".#");
        lineLooks(1, 0, 0, 2, ".#", ".#", "#.");
        lineLooks(0, 2, 1, 0, ".#", ".#", "#.");
        lineLooks(0, 0, 4, 2, "#....", ".##..", "...##");
        lineLooks(0, 2, 4, 0, "....#", "..##.", "##...");
        lineLooks(0, 0, 3, 1, "##..", "..##");
        lineLooks(0, 1, 3, 0, "..##", "##..");
        lineLooks(0, 0, 5, 2, "##....", "..##..", "....##");
        lineLooks(0, 0, 7, 3, "##......", "..##....", "....##..", "......##");
    }

    private static void lineLooks(int x0, int y0, int x1, int y1, String... rows) {
        PictureMoves x = new PictureMoves();
        String call = "line(0, " + x0 + ", " + y0 + ", " + x1 + ", " + y1 + ", 255)";
        due(call, x.line(0, x0, y0, x1, y1, 255), Math.max(Math.abs(x1 - x0), Math.abs(y1 - y0)) + 1);
        Pictures.looks(call, x, 0, rows);
    }

    /** LINE: the longest ones, and those that pass by, from beyond to beyond. */
    private static void linesFromBeyond() {
        int[][] lines = {{-64, 0, 63, 0, 32}, {63, 23, -64, 23, 32}, {0, -64, 0, 63, 24}, {31, 63, 31, -64, 24}, {-64, -64, 63, 63, 24},
            {63, 63, -64, -64, 24}, {-64, -1, 63, -1, 0}, {-64, 24, 63, 24, 0}, {-1, -64, -1, 63, 0}, {32, -64, 32, 63, 0},
            {-64, 63, 63, -64, 0}, {-40, 63, 63, -40, 24}, {-1, 1, 1, -1, 1}, {-1, 0, 0, -1, 0}, {31, 24, 32, 23, 0}, {-1, 0, 1, 0, 2}};
        for (int[] a : lines) {
            String call = "line(0, " + a[0] + ", " + a[1] + ", " + a[2] + ", " + a[3] + ", 255)";
            due(call, new PictureMoves().line(0, a[0], a[1], a[2], a[3], 255), a[4]);
        }
        PictureMoves x = new PictureMoves();
        due("from beyond, steep", x.line(0, 0, -2, 1, 2, 255), 3);
        Pictures.looks("from beyond, steep", x, 0, ".#", ".#", ".#");
    }

    /** FLOOD: "from a DOT that is OPEN": what does not hang together over sides stays; nothing hangs together round the edges. */
    private static void floodsEnd() {
        PictureMoves x = new PictureMoves();
        x.rectangle(0, 0, 0, 1, 24, 255);
        x.rectangle(0, 31, 0, 1, 24, 255);
        due("the left column alone", x.flood(0, 0, 23), 24);
        due("the right one is there", x.of(0, 0), 24);
        x = new PictureMoves();
        x.rectangle(0, 0, 0, 32, 1, 255);
        x.rectangle(0, 0, 23, 32, 1, 255);
        due("the row above alone", x.flood(0, 31, 0), 32);
        due("the row below is there", x.of(0, 0), 32);
        x = new PictureMoves();
        x.dot(0, 31, 4, 1);
        x.dot(0, 0, 5, 1);
        due("not from a row's end to the next one", x.flood(0, 31, 4), 1);
        due("the other one is there", x.at(0, 0, 5), 1);
        x = Pictures.shown(0, "#.#", ".#.", "#.#");
        due("not over corners", x.flood(0, 1, 1), 1);
        Pictures.looks("not over corners", x, 0, "#.#", "...", "#.#");
        x = new PictureMoves();
        due("a whole empty one", x.flood(2, 15, 11), 768);
        due("a whole full one", x.flood(2, 0, 23), 768);
        due("others stay", x.of(0, 0) + x.of(1, 0), 0);
    }

    /** Nothing of a FLOOD, or of what of() sought, is left for the next one. */
    private static void floodsOneAfterAnother() {
        PictureMoves x = Pictures.shown(0, "#####", "", "##", "##", "", "....#", "....#");
        due("PARTS", x.of(0, 1), 3);
        due("the first one", x.flood(0, 0, 0), 5);
        due("the first one back in its place", x.rectangle(0, 0, 1, 5, 1, 255), 5);
        due("the last one", x.flood(0, 4, 6), 2);
        Pictures.looks("the others stay", x, 0, ".....", "#####", "##...", "##...", ".....", ".....", ".....");
        due("PARTS", x.of(0, 1), 1);
        due("PARTS of another one", x.of(1, 1), 0);
        x.dot(1, 9, 9, 1);
        x.dot(1, 0, 2, 1);
        due("one of them", x.flood(1, 9, 9), 1);
        due("the other one", x.at(1, 0, 2), 1);
        due("PARTS of it", x.of(1, 1), 1);
    }

    /** FLOOD: "all OPEN DOTS like it ... by such": DOTS that are not OPEN part what they lie between. */
    private static void floodsWithinOpenings() {
        PictureMoves x = new PictureMoves();
        x.opening(0, 0, 3, 24);
        x.opening(4, 0, 3, 24);
        due("a column that is not OPEN parts them", x.flood(0, 2, 0), 72);
        due("at(0, 3, 0)", x.at(0, 3, 0), 0);
        due("at(0, 4, 0)", x.at(0, 4, 0), 0);
        x.opening(3, 23, 1, 1);
        due("over one DOT between them", x.flood(0, 4, 0), 73);
        due("and back over it", x.flood(0, 6, 0), 145);
        x = new PictureMoves();
        x.opening(9, 9, 1, 1);
        due("one OPEN DOT", x.flood(0, 9, 9), 1);
        due("told", x.of(0, 0), 1);
        x = new PictureMoves();
        x.opening(0, 0, 2, 2);
        x.opening(2, 2, 2, 2);
        due("OPENINGS that touch at a corner", x.flood(0, 1, 1), 4);
    }

    /** "LETTER n has in row k the bits of (n times 5 and 3 k and n by 3 cut) by 16 left over, the greatest bit to the left". */
    private static void allLetters() {
        int[][] bits = {{0, 3, 6, 9}, {5, 8, 11, 14}, {10, 13, 0, 3}, {0, 3, 6, 9}, {5, 8, 11, 14}, {10, 13, 0, 3}, {0, 3, 6, 9}, {5, 8, 11, 14},
            {10, 13, 0, 3}, {0, 3, 6, 9}, {5, 8, 11, 14}, {10, 13, 0, 3}, {0, 3, 6, 9}, {5, 8, 11, 14}, {10, 13, 0, 3}, {0, 3, 6, 9}};
        for (int n = 0; n < 16; n++) {
            PictureMoves x = new PictureMoves();
            int ones = 0;
            for (int k = 0; k < 4; k++) {
                ones += Integer.bitCount(bits[n][k]);
            }
            due("LETTER " + n, x.letter(0, n, 28, 20, SOURCE), ones);
            for (int k = 0; k < 4; k++) {
                due("row " + k + " of LETTER " + n, x.row(0, 20 + k), bits[n][k]);
            }
        }
    }

    /** A LETTER's upper left DOT may lie beyond, or its others: what is in the PICTURE comes. */
    private static void lettersOverTheSides() {
        int[] inside = {0, 1, 2, 3, 4, 4, 4};
        for (int k = 0; k < inside.length; k++) {
            due("a LETTER at x " + (k - 4), new PictureMoves().letter(0, 3, k - 4, 5, 255), 4 * inside[k]);
            due("a LETTER at y " + (k - 4), new PictureMoves().letter(0, 3, 5, k - 4, 255), 4 * inside[k]);
            due("a LETTER at x " + (32 - k), new PictureMoves().letter(0, 3, 32 - k, 5, 255), 4 * inside[k]);
            due("a LETTER at y " + (24 - k), new PictureMoves().letter(0, 3, 5, 24 - k, 255), 4 * inside[k]);
        }
        PictureMoves x = new PictureMoves();
        due("LETTER 5 from -1, -1", x.letter(0, 5, -1, -1, SOURCE), 4);
        Pictures.looks("LETTER 5 from -1, -1", x, 0, "#.#", "...", ".##");
        due("far beyond", x.letter(0, 5, 63, 63, 255) + x.letter(0, 5, -64, -64, 255), 0);
    }

    private static final Pictures.Call[] LEAVING = {x -> x.dot(0, 3, 3, 1 - x.at(0, 3, 3)), x -> x.pattern(4, 99), x -> x.draw(1, 5), x -> x.opening(1, 2, 20, 20),
        PictureMoves::closes, x -> x.move(1, 0, 0, 30, 20, 2, 1, 1, SOURCE), x -> x.line(0, 0, 0, 31, 23, TURNED), x -> x.flood(0, 4, 4),
        x -> x.rectangle(1, 3, 3, 5, 5, TURNED), x -> x.letter(2, 3, 4, 5, TURNED), x -> x.joins(0, 1, TURNED), x -> x.changes(2, 0),
        x -> x.rolls(2, 1, 1), PictureMoves::does};

    /** "each call told S leaves one to go back to (PICTURES, THE PATTERN, OPENINGS)". */
    private static void eachCallToldSLeavesOne() {
        for (int k = 0; k < LEAVING.length; k++) {
            PictureMoves x = new PictureMoves();
            x.draw(0, 1);
            x.draw(2, 2);
            x.opening(0, 0, 32, 24);
            Pictures.types(x, "r 0 5 5 9 9 85;k;o 1 1 2 2;l 2 0 0 9 9 85;");
            long before = x.digest();
            LEAVING[k].on(x);
            Due.holds("call " + k + " told S changes something", x.digest() != before + Pictures.weight(x, 5));
            due("told(5) after call " + k + " told S", x.told(5), 4);
            due("back() after call " + k + " told S", x.back(), 3);
            due("digest() after call " + k + " told S, taken back", x.digest(), before);
        }
    }

    /** Others leave none: with all six there, the newest one is still the one that comes back. */
    private static void otherCallsLeaveNone() {
        Pictures.Call[] telling = {x -> x.at(0, 1, 1), x -> x.row(0, 1), x -> x.of(0, 1), x -> x.count(0, 0, 0, 9, 9), x -> x.unlike(0, 1),
            x -> x.finds(0, 0, 0, 2, 2, 1), x -> x.open(1, 1), x -> x.told(5), PictureMoves::digest};
        for (int kind = 0; kind < Pictures.KINDS_MET; kind++) {
            for (Pictures.Call call : telling) {
                Pictures.changesNothing("what only tells", Pictures.met(kind), Pictures.met(kind), call, call.on(Pictures.met(kind)));
            }
        }
        PictureMoves x = Pictures.met(2);
        PictureMoves twin = Pictures.met(2);
        x.type('x');
        x.clear();
        twin.clear();
        Pictures.changesNothing("type and clear", x, twin, p -> p.told(5), 6);
    }

    /** "6 at most, older ones lost". */
    private static void sixStatesAtMost() {
        for (int calls = 0; calls <= 14; calls++) {
            PictureMoves x = new PictureMoves();
            long[] digests = new long[calls + 1];
            for (int k = 0; k < calls; k++) {
                digests[k] = Arrays.hashCode(Pictures.rows(x, k % 3)) * 31L + x.told(4);
                x.dot(k % 3, k, k, 1);
            }
            due("told(5) after " + calls, x.told(5), Math.min(calls, 6));
            for (int k = calls - 1; k >= Math.max(0, calls - 6); k--) {
                due("back() after " + calls, x.back(), k - Math.max(0, calls - 6));
                due("what came back", Arrays.hashCode(Pictures.rows(x, k % 3)) * 31L + x.told(4), digests[k]);
            }
            due("back() after all", x.back(), NO);
            due("what stays", x.of(0, 0) + x.of(1, 0) + x.of(2, 0), Math.max(0, calls - 6));
        }
    }

    /** "Refused ... the first of: BAD ... NO ... FULL": BAD ahead of NO and of FULL, and only that is counted. */
    private static void firstRefusalCounts() {
        Pictures.refused("flood(3, 32, 0)", Pictures.met(1), Pictures.met(1), x -> x.flood(3, 32, 0), BAD, 0);
        Pictures.refused("flood(-1, 0, 0), not OPEN", Pictures.met(1), Pictures.met(1), x -> x.flood(-1, 0, 0), BAD, 0);
        Pictures.refused("flood(0, 64, 0)", Pictures.met(1), Pictures.met(1), x -> x.flood(0, 64, 0), BAD, 0);
        Pictures.refused("flood(0, 0, -65)", Pictures.met(1), Pictures.met(1), x -> x.flood(0, 0, -65), BAD, 0);
        Pictures.refused("opening(0, 0, 0, 1), full", Pictures.met(3), Pictures.met(3), x -> x.opening(0, 0, 0, 1), BAD, 0);
        Pictures.refused("opening(0, 64, 1, 1), full", Pictures.met(3), Pictures.met(3), x -> x.opening(0, 64, 1, 1), BAD, 0);
        Pictures.refused("opening(0, 0, 1, 1), full", Pictures.met(3), Pictures.met(3), x -> x.opening(0, 0, 1, 1), FULL, 2);
        Pictures.refused("type(128), full", Pictures.met(3), Pictures.met(3), x -> x.type(128), BAD, 0);
        Pictures.refused("type(-1), full", Pictures.met(3), Pictures.met(3), x -> x.type(-1), BAD, 0);
        Pictures.refused("type(59), full", Pictures.met(3), Pictures.met(3), x -> x.type(59), FULL, 2);
        Pictures.refused("flood(0, 0, 0), not OPEN", Pictures.met(1), Pictures.met(1), x -> x.flood(0, 0, 0), NO, 1);
        Pictures.refused("flood(0, 32, 0)", Pictures.met(0), Pictures.met(0), x -> x.flood(0, 32, 0), NO, 1);
        Pictures.refused("back() of a new one", Pictures.met(0), Pictures.met(0), PictureMoves::back, NO, 1);
    }

    public static void main(String[] args) {
        picturesAreEmptyAtFirst();
        cornersOfPictures();
        patternIsFullAtFirst();
        patternComesAgainAfterEight();
        patternStandsStill();
        eachJoinInEachCall();
        eachJoinOfALetter();
        fourOpeningsAtMost();
        openingsThatWere();
        sidesOfAnOpening();
        openingsBeyond();
        closedDotsStay();
        movesOverTheSides();
        sourcesBeyond();
        blocksThatOverlapThemselves();
        linesOfOneDot();
        bothEndsOfALine();
        halvesAreRoundedDown();
        linesFromBeyond();
        floodsEnd();
        floodsOneAfterAnother();
        floodsWithinOpenings();
        allLetters();
        lettersOverTheSides();
        eachCallToldSLeavesOne();
        otherCallsLeaveNone();
        sixStatesAtMost();
        firstRefusalCounts();
        Due.end();
    }
}
