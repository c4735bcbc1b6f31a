/** Each sentence of the document on THE TEXT that names a boundary, with a test of its own. */
public final class PictureMovesTextEdges {
    private static final int BAD = PictureMoves.BAD, FULL = PictureMoves.FULL;

    /** Orders that would change PICTURES, OPENINGS: a FAULT behind them must leave all as it was. */
    private static final String AHEAD = "r0 4 4 9 9 85;k;o1 1 2 2;f1 1 1;k;";

    private static void due(String call, long got, long want) {
        Due.due(call, got, want);
    }

    private static void does(String text, int want) {
        due("does() of \"" + text + "\"", Pictures.typed(text).does(), want);
    }

    private static PictureMoves metWith(int kind, String text) {
        PictureMoves x = Pictures.met(kind);
        Pictures.types(x, text);
        return x;
    }

    /** The FAULT is at place, behind orders that are as told, too; and nothing at all is otherwise by it. */
    private static void fault(String text, int place) {
        Pictures.changesNothing("does() of \"" + text + "\"", Pictures.typed(text), Pictures.typed(text), PictureMoves::does, -10 - place);
        String behind = AHEAD + text;
        for (int kind = 1; kind < Pictures.KINDS_MET; kind++) {
            Pictures.changesNothing("does() of \"" + behind + "\"", metWith(kind, behind), metWith(kind, behind), PictureMoves::does,
                -10 - AHEAD.length() - place);
        }
    }

    private static PictureMoves of120(String end) {
        PictureMoves x = new PictureMoves();
        for (int k = 0; k < 120 - end.length(); k++) {
            due("type(32)", x.type(' '), k + 1);
        }
        for (int k = 0; k < end.length(); k++) {
            due("type of the end", x.type(end.charAt(k)), 120 - end.length() + k + 1);
        }
        return x;
    }

    /** "THE TEXT (120 bytes at most)": 120 are done, the 121st is FULL and does not come behind it. */
    private static void at120Bytes() {
        PictureMoves x = of120("f0 0 0;");
        due("told(3)", x.told(3), 120);
        Pictures.refused("type(59), the 121st", of120("f0 0 0;"), of120("f0 0 0;"), p -> p.type(';'), FULL, 2);
        due("does() of 120 bytes", x.does(), 768);
        x = of120("f0 0 0");
        due("a 121st ; does not count", x.type(';'), FULL);
        due("does() that ends too early at 120", x.does(), -130);
        x = of120("f0 0 0;x");
        due("does() with a FAULT at the last byte", x.does(), -129);
        due("clear() of 120", x.clear(), 120);
        due("type behind clear", x.type('k'), 1);
        due("type behind clear", x.type(';'), 2);
        due("does()", x.does(), 0);
        x = new PictureMoves();
        for (int k = 0; k < 119; k++) {
            x.type(' ');
        }
        due("the 120th", x.type(' '), 120);
        due("the 121st", x.type(' '), FULL);
        due("told(2)", x.told(2), 1);
    }

    /** "numbers (1 to 3 figures": none, 1, 2, 3, 4. */
    private static void figuresOfNumbers() {
        does("r0 0 0 1 1 255;", 1);
        does("r00 00 00 01 01 255;", 1);
        does("r000 000 000 001 001 255;", 1);
        fault("r0000 0 0 1 1 255;", 1);
        fault("r0 0 0 0001 1 255;", 7);
        fault("r0 0 0 1 1 0255;", 11);
        fault("r0 0 0 1 1 2550;", 11);
        fault("r0 0 0 1 1 00000;", 11);
        fault("r0 0 0 1 1 ;", 11);
        fault("r;", 1);
        fault("r0;", 2);
    }

    /** "perhaps with - just ahead)": three figures behind the -; a blank behind it, or another -, can not stand. */
    private static void minusJustAhead() {
        does("r0 -1 -1 2 2 255;", 1);
        does("r0 -01 -001 2 2 255;", 1);
        does("r0 -000 -0 2 2 255;", 4);
        does("r-0 0 0 1 1 255;", 1);
        does("r0 0 0 1 1 -0;", 0);
        fault("r0 -0001 0 2 2 255;", 3);
        fault("r0 - 1 0 2 2 255;", 3);
        fault("r0 --1 0 2 2 255;", 3);
        fault("r0 -;", 3);
        fault("r0 -", 3);
        fault("r0 - ", 3);
        fault("r0 -x", 3);
        fault("r0-", 2);
        fault("r-1 0 0 1 1 255;", 1);
        fault("r0 0 0 1 1 -1;", 11);
        fault("r0 0 0 -1 1 255;", 7);
        fault("r0 0 0 -0 1 255;", 7);
        fault("r0 1- 0 2 2 255;", 4);
    }

    /** "with blanks (32) between, needed only between figures". */
    private static void blanksBetweenFigures() {
        does("r0 0 0 2 3 255;", 6);
        does("r 0 0 0 2 3 255 ;", 6);
        does("r0-1-1 3 4 255;", 6);
        does("r0-1 -1 3 4 255;", 6);
        does("l0-1-1 1 1 255;", 2);
        fault("r000 2 3 255;", 9);
        fault("r000 2 3 1 2;", 12);
        fault("r00023255;", 1);
        fault("f000;", 4);
        fault("f0 00;", 5);
        fault("f0 0 2 3;", 7);
    }

    /** "Blanks may stand anywhere but in numbers." */
    private static void blanksAnywhere() {
        String[] parts = {"r", "0", "-1", "-2", "3", "4", "255", ";"};
        for (int more = 0; more <= parts.length; more++) {
            StringBuilder out = new StringBuilder();
            for (int k = 0; k <= parts.length; k++) {
                out.append(k == more ? "   " : k >= 2 && k <= 6 ? " " : "");
                out.append(k < parts.length ? parts[k] : "");
            }
            does(out.toString(), 4);
        }
        does("   k   ;   k;   ", 0);
        fault("f0 1 2 ;f0 1 2 0;", 15);
        fault("r0 0 0 2 3 2 55;", 13);
        fault("f0 - 1 0;", 3);
        int[] notBlanks = {0, 9, 10, 11, 12, 13, 31, 33, 95, 127};
        for (int c : notBlanks) {
            fault((char) c + "k;", 0);
            fault("k" + (char) c + ";", 1);
            fault("f0" + (char) c + "0 0;", 2);
            fault("f" + (char) c + "0 0 0;", 1);
            fault("f0 0 0;" + (char) c, 7);
        }
    }

    /** Signs: m l f r c o k and no other byte; capitals are others. */
    private static void signs() {
        String known = "mlfrcok";
        for (int c = 0; c < 128; c++) {
            if (c != ' ' && known.indexOf(c) < 0) {
                fault((char) c + ";", 0);
            }
        }
        does("m0 0 0 1 1 1 0 0 255;", 1);
        does("l0 0 0 1 1 255;", 2);
        does("f0 0 0;", 768);
        does("r0 0 0 1 2 255;", 2);
        does("c0 0 0 0 255;", 16);
        does("o0 0 1 1;", 0);
        does("k;", 0);
    }

    /** "each ended by ;": one number too few, one too many, no ; and two of them. */
    private static void endsOfOrders() {
        String[] orders = {"m 0 1 2 3 4 1 5 6 7", "l 0 1 2 3 4 5", "f 0 1 2", "r 0 1 2 3 4 5", "c 0 1 2 3 4", "o 1 2 3 4", "k"};
        for (String order : orders) {
            fault(order + " 0;", order.length() + 1);
            fault(order + "-1;", order.length());
            fault(order + ";;", order.length() + 1);
            fault(order + ":", order.length());
            fault(order + " k;", order.length() + 1);
            fault(order, order.length());
            fault(order + "  ", order.length() + 2);
            if (order.length() > 1) {
                int last = order.lastIndexOf(' ');
                fault(order.substring(0, last) + ";", last);
                fault(order.substring(0, last) + " ;", last + 1);
                fault(order.substring(0, last + 1) + "x;", last + 1);
            }
        }
    }

    /** "the TEXT's length, if it ends too early (an empty one, too)": each beginning of an ORDER that stops short. */
    private static void textsThatEndTooEarly() {
        due("does() of an empty one", new PictureMoves().does(), -10);
        for (int kind = 0; kind < Pictures.KINDS_MET; kind++) {
            Pictures.changesNothing("does() of an empty one", metWith(kind, ""), metWith(kind, ""), PictureMoves::does, -10);
        }
        String[] orders = {"m 0 1 2 3 4 1 5 6 200;", "l 0 10 20 30 40 50;", "f 0 11 22;", "r 0 1 2 30 4 55;", "c 0 12 23 34 45;", "o 1 2 33 44;", "k ;"};
        for (String order : orders) {
            for (int length = 1; length < order.length(); length++) {
                fault(order.substring(0, length), length);
            }
            Due.holds("does() of \"" + order + "\"", Pictures.typed(order).does() >= 0);
        }
    }

    /** A text of blanks alone has no ORDER: it ends too early, as an empty one does. */
    private static void blanksAlone() {
        for (int length = 1; length <= 120; length += 7) {
            String text = " ".repeat(length);
            Pictures.changesNothing("does() of " + length + " blanks", Pictures.typed(text), Pictures.typed(text), PictureMoves::does, -10 - length);
        }
    }

    /** "of a number that is not as told ...: its first byte, the -, if it has one", wherever the text ends. */
    private static void firstByteOfAWrongNumber() {
        fault("f 3 0 0;", 2);
        fault("f   3", 4);
        fault("f 0   64", 6);
        fault("f 0   -65", 6);
        fault("f 0 0-65;", 5);
        fault("f 0 0 100;", 6);
        fault("f 0 0 -100;", 6);
        fault("f 0 0 999;", 6);
        fault("f 0 0 1000;", 6);
        fault("f 0 0 1000", 6);
        fault("f 0 0 -1000", 6);
        fault("f 0 64 x;", 4);
        fault("f 0 64x 0;", 4);
        fault("f 3 64 64;", 2);
        fault("r 0 0 0 0", 8);
        fault("r 0 0 0 65", 8);
    }

    /** "a 5th OPENING: the o", those that are there ahead of the text counted, those that k took away not. */
    private static void fifthOpenings() {
        String four = "o0 0 1 1;o1 0 1 1;o2 0 1 1;o3 0 1 1;";
        due("four of them", Pictures.typed(four).does(), 0);
        fault(four + "o4 0 1 1;", 36);
        fault(four + "  o4 0 1 1;", 38);
        fault(four + "f0 0 0;o4 0 1 1;", 43);
        fault(four + "o", 36);
        fault(four + "o64 0 1 1;", 36);
        due("k between", Pictures.typed(four + "k;" + four).does(), 0);
        due("k between, a 5th", Pictures.typed(four + "k;" + four + "o").does(), -10 - 74);
        for (int there = 0; there <= 4; there++) {
            for (int more = 1; more <= 5; more++) {
                openingsAhead(there, more);
            }
        }
    }

    private static PictureMoves withOpenings(int there, String text) {
        PictureMoves x = new PictureMoves();
        for (int k = 0; k < there; k++) {
            x.opening(k, 0, 1, 1);
        }
        Pictures.types(x, text);
        return x;
    }

    private static void openingsAhead(int there, int more) {
        String text = "o9 9 1 1;".repeat(more);
        String call = "does() of " + more + " OPENINGS behind " + there;
        if (there + more > 4) {
            Pictures.changesNothing(call, withOpenings(there, text), withOpenings(there, text), PictureMoves::does, -10 - 9 * (4 - there));
        } else {
            PictureMoves x = withOpenings(there, text);
            due(call, x.does(), 0);
            due("told(4) after " + call, x.told(4), there + more);
        }
        PictureMoves x = withOpenings(there, "k;" + text);
        due(call + " and k", x.does(), more > 4 ? -10 - 2 - 36 : 0);
        due("told(4) after " + call + " and k", x.told(4), more > 4 ? there : more);
    }

    /** "nothing, where flood() tells NO": no DOT, no count, and the orders behind it are done. */
    private static void floodsThatDoNothing() {
        String[] floods = {"f0 -1 0;", "f0 32 0;", "f0 0 -1;", "f0 0 24;", "f0 -64 63;", "f0 63 -64;", "o5 5 2 2;f0 4 5;", "o5 5 2 2;f0 7 5;"};
        for (String flood : floods) {
            PictureMoves x = Pictures.typed(flood + "r1 5 5 1 1 255;");
            due("does() of " + flood, x.does(), 1);
            due("of(0, 0) after " + flood, x.of(0, 0), 0);
            due("told(1) after " + flood, x.told(0) + x.told(1) + x.told(2), 0);
            due("told(5) after " + flood, x.told(5), 1);
            x = Pictures.typed(flood);
            due("does() of " + flood, x.does(), 0);
            due("a STATE all the same, told(5)", x.told(5), 1);
        }
        does("f0 31 23;", 768);
        does("o5 5 2 2;f0 6 6;", 4);
    }

    /** "how many DOTS were otherwise by them (those of each ORDER, together)": a DOT changed twice counts twice. */
    private static void eachOrderCounts() {
        does("r0 0 0 2 2 85;r0 0 0 2 2 85;", 8);
        does("f0 0 0;f0 0 0;f1 0 0;", 2304);
        does("r0 0 0 2 2 255;r0 0 0 2 2 255;", 4);
        does("r0 0 0 2 2 170;", 0);
        does("r0 0 0 2 2 255;o0 0 1 1;r0 0 0 2 2 0;k;r0 0 0 2 2 0;", 8);
        does("r0 0 0 2 1 255;m0 0 0 2 1 0 1 0 240;m0 0 0 3 1 1 0 0 240;", 6);
    }

    /** "S (one)": one STATE by any number of ORDERS, the oldest lost where six are there; each ORDER sees what those ahead did. */
    private static void oneStateByAll() {
        PictureMoves x = Pictures.typed("k;".repeat(60));
        due("does() of 60 orders", x.does(), 0);
        due("told(5)", x.told(5), 1);
        x = Pictures.met(2);
        Pictures.types(x, "f0 20 10;k;o0 0 9 9;o9 9 9 9;r2 0 0 64 64 85;");
        int[] before = Pictures.rows(x, 2);
        Due.holds("does()", x.does() > 0);
        due("told(5)", x.told(5), 6);
        due("told(4)", x.told(4), 2);
        due("back()", x.back(), 5);
        due("told(4)", x.told(4), 2);
        due("open(21, 17), as ahead of it", x.open(21, 17), 1);
        Due.holds("PICTURE 2 as ahead of it", java.util.Arrays.equals(before, Pictures.rows(x, 2)));
        due("THE TEXT stays", x.told(3), 45);
        for (int left = 4; left >= 0; left--) {
            due("back()", x.back(), left);
        }
        due("back()", x.back(), PictureMoves.NO);
    }

    /** type: "A byte (0 .. 127)": each comes, and is one that can not stand, but for blanks and signs. */
    private static void bytes() {
        for (int c = 0; c < 128; c++) {
            PictureMoves x = new PictureMoves();
            due("type(" + c + ")", x.type(c), 1);
            due("told(3)", x.told(3), 1);
            due("does() of byte " + c, x.does(), c == ' ' || "mlfrcok".indexOf(c) >= 0 ? -11 : -10);
        }
        PictureMoves x = new PictureMoves();
        due("type(-1)", x.type(-1), BAD);
        due("type(128)", x.type(128), BAD);
        due("type(256 and 107)", x.type(256 + 'k'), BAD);
        due("told(3)", x.told(3), 0);
        due("clear() of an empty one", x.clear(), 0);
    }

    public static void main(String[] args) {
        at120Bytes();
        figuresOfNumbers();
        minusJustAhead();
        blanksBetweenFigures();
        blanksAnywhere();
        signs();
        endsOfOrders();
        textsThatEndTooEarly();
        blanksAlone();
        firstByteOfAWrongNumber();
        fifthOpenings();
        floodsThatDoNothing();
        eachOrderCounts();
        oneStateByAll();
        bytes();
        Due.end();
    }
}
