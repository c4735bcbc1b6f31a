/** What several tests share: pictures from rows of signs, typed texts, and what a refused call may leave behind. */
final class Pictures {
    static final int LOW = Integer.MIN_VALUE, HIGH = Integer.MAX_VALUE;
    /** JOINS that bring the source, THE PATTERN, what is there, and the other of what is there. */
    static final int SOURCE = 240, PATTERN = 204, THERE = 170, TURNED = 85;

    private Pictures() {
    }

    /** Something done on an object. */
    interface Call {
        long on(PictureMoves x);
    }

    /** Draws a picture from rows of signs at x 0, y 0: # is 1. */
    static PictureMoves shown(int t, String... rows) {
        PictureMoves x = new PictureMoves();
        for (int y = 0; y < rows.length; y++) {
            for (int k = 0; k < rows[y].length(); k++) {
                if (rows[y].charAt(k) == '#') {
                    x.dot(t, k, y, 1);
                }
            }
        }
        return x;
    }

    /** The left upper part of picture t must look like the rows, and nothing may be 1 elsewhere. */
    static void looks(String what, PictureMoves x, int t, String... rows) {
        int ones = 0;
        for (int y = 0; y < rows.length; y++) {
            for (int k = 0; k < rows[y].length(); k++) {
                int want = rows[y].charAt(k) == '#' ? 1 : 0;
                ones += want;
                Due.due(what + ": at(" + t + ", " + k + ", " + y + ")", x.at(t, k, y), want);
            }
        }
        Due.due(what + ": DOTS of 1", x.of(t, 0), ones);
    }

    /** A picture whose DOTS are all 1. */
    static PictureMoves full(int t) {
        PictureMoves x = new PictureMoves();
        x.rectangle(t, 0, 0, 32, 24, 255);
        return x;
    }

    static PictureMoves typed(String text) {
        PictureMoves x = new PictureMoves();
        types(x, text);
        return x;
    }

    static void types(PictureMoves x, String text) {
        x.clear();
        for (int k = 0; k < text.length(); k++) {
            Due.due("type of byte " + k + " of \"" + text + "\"", x.type(text.charAt(k)), k + 1);
        }
    }

    /** The DOTS of a picture, row by row. */
    static int[] rows(PictureMoves x, int t) {
        int[] rows = new int[24];
        for (int y = 0; y < 24; y++) {
            rows[y] = x.row(t, y);
        }
        return rows;
    }

    static int dotOf(int[] rows, int x, int y) {
        return x >= 0 && x < 32 && y >= 0 && y < 24 ? rows[y] >>> 31 - x & 1 : 0;
    }

    /** How much the digest grows where told(what) grows by one: 31 for each number behind it. */
    static long weight(PictureMoves x, int what) {
        long weight = 1;
        for (int behind = 6 + 72 + 8 + 4 * x.told(4) - 1; behind > what; behind--) {
            weight *= 31;
        }
        return weight;
    }

    /**
     * A call that is refused, on x, whose twin has had the same calls but for this one: its answer, one more of told(what),
     * nothing else otherwise, and the same STATES to go back to.
     */
    static void refused(String call, PictureMoves x, PictureMoves twin, Call refused, long want, int what) {
        Due.due(call, refused.on(x), want);
        Due.due("told(" + what + ") after " + call, x.told(what), twin.told(what) + 1);
        Due.due("told(5) after " + call, x.told(5), twin.told(5));
        Due.due("digest() after " + call, x.digest() - weight(x, what), twin.digest());
        goesBackAlike(call, x, twin, what);
    }

    /** A call that changes nothing at all, how often refused, too. */
    static void changesNothing(String call, PictureMoves x, PictureMoves twin, Call nothing, long want) {
        Due.due(call, nothing.on(x), want);
        Due.due("digest() after " + call, x.digest(), twin.digest());
        goesBackAlike(call, x, twin, -1);
    }

    private static void goesBackAlike(String call, PictureMoves x, PictureMoves twin, int what) {
        for (int k = 0; k < 7; k++) {
            Due.due("back() " + k + " after " + call, x.back(), twin.back());
            Due.due("digest() at back " + k + " after " + call, x.digest() - (what < 0 ? 0 : weight(x, what)), twin.digest());
        }
    }

    /** Objects that a refused call may meet: a new one, one that is in use, one with all STATES, one that is full. */
    static PictureMoves met(int kind) {
        PictureMoves x = new PictureMoves();
        if (kind == 0) {
            return x;
        }
        x.draw(0, 11);
        x.pattern(2, 90);
        x.opening(2, 3, 20, 15);
        x.type('k');
        if (kind == 1) {
            return x;
        }
        x.draw(1, 12);
        x.draw(2, 13);
        x.pattern(5, 165);
        x.opening(-3, -5, 9, 9);
        if (kind == 2) {
            return x;
        }
        x.opening(25, 20, 64, 64);
        x.opening(63, -64, 1, 64);
        for (int k = 1; k < 120; k++) {
            x.type(';');
        }
        return x;
    }

    static final int KINDS_MET = 4;
}
