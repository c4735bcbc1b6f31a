/** THE TEXT (promises 22 to 24): each row a text, typed on a new object, and what does() answers. */
public final class PictureMovesTexts {
    private static void does(String text, int want) {
        PictureMoves x = Pictures.typed(text);
        Due.due("does() of \"" + text + "\"", x.does(), want);
        Due.due("told(5) after \"" + text + "\"", x.told(5), want < 0 ? 0 : 1);
        Due.due("told(3) after \"" + text + "\"", x.told(3), text.length());
        for (int what = 0; what < 3; what++) {
            Due.due("told(" + what + ") after \"" + text + "\"", x.told(what), 0);
        }
        if (want < 0) {
            Due.due("DOTS after the FAULT of \"" + text + "\"", x.of(0, 0) + x.of(1, 0) + x.of(2, 0), 0);
            Due.due("OPENINGS after the FAULT of \"" + text + "\"", x.told(4), 0);
        }
    }

    /** The FAULT stands at the place of ^ in the row of marks. */
    private static void fault(String text, String marks) {
        does(text, -10 - marks.indexOf('^'));
    }

    private static void ordersAreDone() {
        does("k;", 0);
        does(" k ; k;k ;  ", 0);
        does("r 0 2 2 3 3 255;", 9);
        does("r0 2 2 3 3 255;", 9);
        does("r0-1-1 3 3 255;", 4);
        does("r0 -1-1 3 3 255;", 4);
        does("  r   0  2  2  3  3  255  ;  ", 9);
        does("r 0 2 2 3 3 255;r 0 2 2 3 3 0;", 18);
        does("r 00 002 02 003 3 255;", 9);
        does("r 0 -0 -00 3 3 255;", 9);
        does("r0 -64-64 64 64 255;", 0);
        does("r0 -64-63 64 64 255;", 0);
        does("r0 -63-63 64 64 255;", 1);
        does("l0 0 0 9 9 255;", 10);
        does("l0-64 0 63 0 255;", 32);
        does("f0 0 0;", 768);
        does("f2 31 23;f2 0 0;", 1536);
        does("f0 -1 0;", 0);
        does("f0 32 0;", 0);
        does("f0 0 24;", 0);
        does("o0 0 2 2;f0 2 2;", 0);
        does("o0 0 2 2;f0 1 1;", 4);
        does("o0 0 2 2;k;f0 1 1;", 768);
        does("c2 5 3 3 240;", 7);
        does("c2 0 0 0 255;", 16);
        does("c2 15 -3 -3 255;", 1);
        does("m0 0 0 4 4 1 2 2 15;", 16);
        does("r0 0 0 2 2 255;m0 0 0 2 2 0 1 1 240;", 7);
        does("o0 0 1 1;o2 0 1 1;o4 0 1 1;o6 0 1 1;r0 0 0 64 64 255;", 4);
        does("o0 0 1 1;o2 0 1 1;o4 0 1 1;o6 0 1 1;k;o8 0 1 1;r0 0 0 64 64 255;", 1);
    }

    private static void textsThatEndTooEarly() {
        does("", -10);
        does(" ", -11);
        does("   ", -13);
        does("k", -11);
        does("k ", -12);
        does("k;k", -13);
        does("k;r", -13);
        does("r 0 2 2 3 3 255", -25);
        does("r 0 2 2 3 3 ", -22);
        does("r 0 2 2 3 3 25", -24);
    }

    private static void bytesThatCanNotStand() {
        fault(";", "^");
        fault("k;;", "  ^");
        fault("x;", "^");
        fault("K;", "^");
        fault("5;", "^");
        fault("-;", "^");
        fault("  \t k;", "  ^");
        fault("kk;", " ^");
        fault("k 5;", "  ^");
        fault("k -;", "  ^");
        fault("k,", " ^");
        fault("r 0 2 2 3 3;", "           ^");
        fault("r 0 2 2 3 3 255 1;", "                ^");
        fault("r 0 2 2 3 3 255-1;", "               ^");
        fault("r 0 2 2 3 3 255k;", "               ^");
        fault("r 0 2 x 3 3 255;", "      ^");
        fault("r 0,2 2 3 3 255;", "   ^");
        fault("r 0 2 +2 3 3 255;", "      ^");
        fault("r 0 2 2 3 3 9:;", "             ^");
        fault("r 0 2 2 3 3 :;", "            ^");
        fault("r 0 2 2 3 3 /;", "            ^");
        fault("r 0 2 2 3 3 255;z", "                ^");
        fault("r 0 2 2 3 3 255;r 3 0 0 1 1 0;", "                  ^");
    }

    private static void numbersThatAreNotAsTold() {
        fault("r 0 2 2 3 3 2555;", "            ^");
        fault("r 0 2 2 3 3 0255;", "            ^");
        fault("r 0 0002 2 3 3 255;", "    ^");
        fault("r 0 -0002 2 3 3 255;", "    ^");
        fault("r 0 2 2 3 3 99999999999999;", "            ^");
        fault("r 0 - 2 2 3 3 255;", "    ^");
        fault("r 0 -", "    ^");
        fault("r 0 --2 2 3 3 255;", "    ^");
        fault("r 0 2- 2 3 3 255;", "     ^");
        fault("r 0 -;", "    ^");
        fault("r 0 2 2 3 3 -1;", "            ^");
        fault("r 0 2 2 3 3 256;", "            ^");
        fault("r 0 2 2 3 3 256", "            ^");
        fault("r 3 2 2 3 3 255;", "  ^");
        fault("r -1 2 2 3 3 255;", "  ^");
        fault("r 0 64 2 3 3 255;", "    ^");
        fault("r 0 -65 2 3 3 255;", "    ^");
        fault("r 0 2 64 3 3 255;", "      ^");
        fault("r 0 2-65 3 3 255;", "     ^");
        fault("r 0 2 2 0 3 255;", "        ^");
        fault("r 0 2 2 65 3 255;", "        ^");
        fault("r 0 2 2 3 0 255;", "          ^");
        fault("r 0 2 2 3 65 255;", "          ^");
        fault("m 3 0 0 1 1 0 0 0 0;", "  ^");
        fault("m 0 64 0 1 1 0 0 0 0;", "    ^");
        fault("m 0 0 64 1 1 0 0 0 0;", "      ^");
        fault("m 0 0 0 65 1 0 0 0 0;", "        ^");
        fault("m 0 0 0 1 0 0 0 0 0;", "          ^");
        fault("m 0 0 0 1 1 3 0 0 0;", "            ^");
        fault("m 0 0 0 1 1 0 64 0 0;", "              ^");
        fault("m 0 0 0 1 1 0 0 -65 0;", "                ^");
        fault("m 0 0 0 1 1 0 0 0 256;", "                  ^");
        fault("l 3 0 0 0 0 0;", "  ^");
        fault("l 0 64 0 0 0 0;", "    ^");
        fault("l 0 0 64 0 0 0;", "      ^");
        fault("l 0 0 0 64 0 0;", "        ^");
        fault("l 0 0 0 0 64 0;", "          ^");
        fault("l 0 0 0 0 0 256;", "            ^");
        fault("f 3 0 0;", "  ^");
        fault("f 0 64 0;", "    ^");
        fault("f 0 0 -65;", "      ^");
        fault("c 3 0 0 0 0;", "  ^");
        fault("c 0 16 0 0 0;", "    ^");
        fault("c 0 0 64 0 0;", "      ^");
        fault("c 0 0 0 64 0;", "        ^");
        fault("c 0 0 0 0 256;", "          ^");
        fault("o 64 0 1 1;", "  ^");
        fault("o 0 64 1 1;", "    ^");
        fault("o 0 0 0 1;", "      ^");
        fault("o 0 0 1 65;", "        ^");
    }

    private static void fifthOpenings() {
        fault("o0 0 1 1;o0 0 1 1;o0 0 1 1;o0 0 1 1; o0 0 1 1;", "                                     ^");
        fault("o0 0 1 1;o0 0 1 1;o0 0 1 1;o0 0 1 1;o0 0 x", "                                    ^");
        does("o0 0 1 1;o0 0 1 1;o0 0 1 1;o0 0 1 1;k;o0 0 1 1", -10 - 46);
        does("o0 0 1 1;k;o0 0 1 1;o0 0 1 1;o0 0 1 1;o0 0 1 1;", 0);
        does("o0 0 1 1;k;o0 0 1 1;o0 0 1 1;o0 0 1 1;o0 0 1 1;o", -10 - 47);
        PictureMoves x = new PictureMoves();
        x.opening(0, 0, 1, 1);
        x.opening(2, 0, 1, 1);
        x.opening(4, 0, 1, 1);
        Pictures.types(x, "o6 0 1 1;o8 0 1 1;");
        Due.due("does() with a 5th OPENING", x.does(), -19);
        Due.due("told(4) after it", x.told(4), 3);
        Due.due("told(2) after it", x.told(2), 0);
        Pictures.types(x, "o6 0 1 1;");
        Due.due("does() with a 4th OPENING", x.does(), 0);
        Due.due("told(4) after it", x.told(4), 4);
        Due.due("open(6, 0)", x.open(6, 0), 1);
        Pictures.types(x, "k;o6 0 1 1;");
        Due.due("does() with k ahead", x.does(), 0);
        Due.due("told(4) after it", x.told(4), 1);
    }

    private static void oneStateForAllOrders() {
        PictureMoves x = Pictures.typed("r0 0 0 9 9 255;r1 0 0 9 9 255;o0 0 1 1;r2 0 0 9 9 255;");
        Due.due("does()", x.does(), 81 + 81 + 1);
        Due.due("told(5)", x.told(5), 1);
        Due.due("told(4)", x.told(4), 1);
        Due.due("does() again", x.does(), 0);
        Due.due("told(4)", x.told(4), 2);
        Due.due("back()", x.back(), 1);
        Due.due("told(4)", x.told(4), 1);
        Due.due("back()", x.back(), 0);
        Due.due("told(4)", x.told(4), 0);
        Due.due("of(0, 0)", x.of(0, 0) + x.of(1, 0) + x.of(2, 0), 0);
        Due.due("told(3): back leaves THE TEXT", x.told(3), 54);
    }

    private static void textsOf120() {
        PictureMoves x = new PictureMoves();
        for (int k = 0; k < 60; k++) {
            Due.due("type(107)", x.type('k'), 2 * k + 1);
            Due.due("type(59)", x.type(';'), 2 * k + 2);
        }
        Due.due("type(128) of a full one", x.type(128), PictureMoves.BAD);
        Due.due("type(59) of a full one", x.type(';'), PictureMoves.FULL);
        Due.due("told(0)", x.told(0), 1);
        Due.due("told(2)", x.told(2), 1);
        Due.due("told(3)", x.told(3), 120);
        Due.due("does() of 60 ORDERS", x.does(), 0);
        Due.due("clear()", x.clear(), 120);
        Due.due("clear()", x.clear(), 0);
        for (int k = 0; k < 120; k++) {
            x.type(' ');
        }
        Due.due("does() of 120 blanks", x.does(), -130);
        x.clear();
        for (int k = 0; k < 120; k++) {
            x.type('1');
        }
        Due.due("does() of 120 figures", x.does(), -10);
    }

    private static void wrongBytes() {
        PictureMoves x = new PictureMoves();
        Due.due("type(-1)", x.type(-1), PictureMoves.BAD);
        Due.due("type(128)", x.type(128), PictureMoves.BAD);
        Due.due("told(3)", x.told(3), 0);
        Due.due("type(0)", x.type(0), 1);
        Due.due("type(127)", x.type(127), 2);
        Due.due("told(0)", x.told(0), 2);
        Due.due("does()", x.does(), -10);
        x.clear();
        x.type('k');
        x.type(';');
        x.type(127);
        Due.due("does()", x.does(), -12);
        x.clear();
        x.type('k');
        Due.due("does(): what was cleared is gone", x.does(), -11);
        Due.due("told(5): type and clear leave no STATE", x.told(5), 0);
    }

    public static void main(String[] args) {
        ordersAreDone();
        textsThatEndTooEarly();
        bytesThatCanNotStand();
        numbersThatAreNotAsTold();
        fifthOpenings();
        oneStateForAllOrders();
        textsOf120();
        wrongBytes();
        Due.end();
    }
}
