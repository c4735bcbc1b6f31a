import java.util.ArrayList;
import java.util.Arrays;
import java.util.List;

/**
 * Each number of each call and of each ORDER: the last that is allowed and the first that is not, on both sides; and what
 * a refused call, or a FAULT, leaves behind.
 */
public final class PictureMovesBounds {
    /** A call of the face, given its numbers. */
    private interface Told {
        long on(PictureMoves x, int[] a);
    }

    /** kinds: a letter for each number, see boundsOf; sign: that of the ORDER in a text, or blank. */
    private record Face(String name, char sign, String kinds, boolean leavesState, int[] right, Told told) {
        String shown(int[] a) {
            return name + Arrays.toString(a);
        }

        /** row answers 0, where it is BAD. */
        int refusal() {
            return name.equals("row") ? 0 : PictureMoves.BAD;
        }
    }

    private static final int LOW = Pictures.LOW, HIGH = Pictures.HIGH;

    private static final List<Face> FACES = List.of(
        new Face("dot", ' ', "pXYv", true, new int[] {1, 5, 6, 1}, (x, a) -> x.dot(a[0], a[1], a[2], a[3])),
        new Face("pattern", ' ', "rj", true, new int[] {3, 77}, (x, a) -> x.pattern(a[0], a[1])),
        new Face("draw", ' ', "ps", true, new int[] {1, 7}, (x, a) -> x.draw(a[0], a[1])),
        new Face("opening", 'o', "xxww", true, new int[] {4, 5, 6, 7}, (x, a) -> x.opening(a[0], a[1], a[2], a[3])),
        new Face("move", 'm', "pxxwwpxxj", true, new int[] {0, 1, 2, 9, 8, 1, 3, 4, 150},
            (x, a) -> x.move(a[0], a[1], a[2], a[3], a[4], a[5], a[6], a[7], a[8])),
        new Face("line", 'l', "pxxxxj", true, new int[] {1, 2, 3, 24, 9, 85}, (x, a) -> x.line(a[0], a[1], a[2], a[3], a[4], a[5])),
        new Face("flood", 'f', "pxx", true, new int[] {0, 4, 5}, (x, a) -> x.flood(a[0], a[1], a[2])),
        new Face("rectangle", 'r', "pxxwwj", true, new int[] {2, 3, 4, 5, 6, 90},
            (x, a) -> x.rectangle(a[0], a[1], a[2], a[3], a[4], a[5])),
        new Face("letter", 'c', "pnxxj", true, new int[] {1, 9, 4, 5, 60}, (x, a) -> x.letter(a[0], a[1], a[2], a[3], a[4])),
        new Face("joins", ' ', "ppj", true, new int[] {0, 1, 102}, (x, a) -> x.joins(a[0], a[1], a[2])),
        new Face("changes", ' ', "pW", true, new int[] {1, 2}, (x, a) -> x.changes(a[0], a[1])),
        new Face("rolls", ' ', "pRR", true, new int[] {1, 2, 3}, (x, a) -> x.rolls(a[0], a[1], a[2])),
        new Face("at", ' ', "paa", false, new int[] {1, 2, 3}, (x, a) -> x.at(a[0], a[1], a[2])),
        new Face("row", ' ', "pY", false, new int[] {1, 2}, (x, a) -> x.row(a[0], a[1])),
        new Face("of", ' ', "po", false, new int[] {1, 0}, (x, a) -> x.of(a[0], a[1])),
        new Face("count", ' ', "pxxww", false, new int[] {1, 2, 3, 4, 5}, (x, a) -> x.count(a[0], a[1], a[2], a[3], a[4])),
        new Face("unlike", ' ', "pp", false, new int[] {1, 2}, (x, a) -> x.unlike(a[0], a[1])),
        new Face("finds", ' ', "pXYbbp", false, new int[] {0, 3, 4, 1, 1, 1}, (x, a) -> x.finds(a[0], a[1], a[2], a[3], a[4], a[5])),
        new Face("open", ' ', "XY", false, new int[] {2, 3}, (x, a) -> x.open(a[0], a[1])),
        new Face("type", ' ', "c", false, new int[] {32}, (x, a) -> x.type(a[0])),
        new Face("told", ' ', "t", false, new int[] {2}, (x, a) -> x.told(a[0])));

    private static int[] boundsOf(char kind) {
        switch (kind) {
            case 'p': return new int[] {0, 2};
            case 'x': return new int[] {-64, 63};
            case 'w': return new int[] {1, 64};
            case 'j': return new int[] {0, 255};
            case 'n': return new int[] {0, 15};
            case 'X': return new int[] {0, 31};
            case 'Y': return new int[] {0, 23};
            case 'v': return new int[] {0, 1};
            case 'r': return new int[] {0, 7};
            case 's': return new int[] {0, 999999};
            case 'W': return new int[] {0, 4};
            case 'R': return new int[] {-31, 31};
            case 'o': return new int[] {0, 6};
            case 'b': return new int[] {1, 8};
            case 'c': return new int[] {0, 127};
            case 't': return new int[] {0, 5};
            case 'a': return new int[] {LOW, HIGH};
            default: throw new IllegalStateException("no such kind: " + kind);
        }
    }

    private static int[] wrongOf(char kind) {
        int[] bounds = boundsOf(kind);
        return kind == 'a' ? new int[0] : new int[] {bounds[0] - 1, bounds[1] + 1, LOW, HIGH};
    }

    private static int[] with(int[] right, int k, int number) {
        int[] a = right.clone();
        a[k] = number;
        return a;
    }

    /** The first number that is not allowed, on both sides: BAD, on whatever object. */
    private static void firstOnesNotAllowed(Face f) {
        for (int k = 0; k < f.kinds().length(); k++) {
            for (int wrong : wrongOf(f.kinds().charAt(k))) {
                int[] a = with(f.right(), k, wrong);
                for (int kind = 0; kind < Pictures.KINDS_MET; kind++) {
                    Pictures.refused(f.shown(a) + " on " + kind, Pictures.met(kind), Pictures.met(kind), x -> f.told().on(x, a), f.refusal(), 0);
                }
            }
        }
    }

    /** A call whose numbers are all wrong is refused once, not once for each. */
    private static void allWrongAtOnce(Face f) {
        int[] below = f.right().clone();
        int[] above = f.right().clone();
        for (int k = 0; k < f.kinds().length(); k++) {
            if (f.kinds().charAt(k) != 'a') {
                below[k] = LOW;
                above[k] = HIGH;
            }
        }
        for (int kind = 0; kind < Pictures.KINDS_MET; kind++) {
            Pictures.refused(f.shown(below) + " on " + kind, Pictures.met(kind), Pictures.met(kind), x -> f.told().on(x, below), f.refusal(), 0);
            Pictures.refused(f.shown(above) + " on " + kind, Pictures.met(kind), Pictures.met(kind), x -> f.told().on(x, above), f.refusal(), 0);
        }
    }

    /** The last number that is allowed, on both sides: not BAD, and a STATE only by the calls told S. */
    private static void lastOnesAllowed(Face f) {
        for (int k = 0; k < f.kinds().length(); k++) {
            for (int edge : boundsOf(f.kinds().charAt(k))) {
                int[] a = with(f.right(), k, edge);
                PictureMoves x = Pictures.met(1);
                long answer = f.told().on(x, a);
                Due.due("told(0) after " + f.shown(a), x.told(0), 0);
                Due.due("told(2) after " + f.shown(a), x.told(2), 0);
                boolean refusedNo = f.name().equals("flood") && answer == PictureMoves.NO;
                Due.due("told(1) after " + f.shown(a), x.told(1), refusedNo ? 1 : 0);
                Due.due("told(5) after " + f.shown(a), x.told(5), f.leavesState() && !refusedNo ? 4 : 3);
                Due.holds(f.shown(a) + " is not refused", f.name().equals("row") || refusedNo || answer >= PictureMoves.NONE);
            }
        }
    }

    /** The text of an ORDER, and at which byte its number k begins. */
    private static String orderOf(Face f, int[] a) {
        StringBuilder out = new StringBuilder().append(f.sign());
        for (int number : a) {
            out.append(' ').append(number);
        }
        return out.append(';').toString();
    }

    private static int placeOf(int[] a, int k) {
        int place = 2;
        for (int i = 0; i < k; i++) {
            place += 1 + Integer.toString(a[i]).length();
        }
        return place;
    }

    private static PictureMoves metWith(int kind, String text) {
        PictureMoves x = Pictures.met(kind);
        Pictures.types(x, text);
        return x;
    }

    /** "Bounds as by the calls": the same numbers are the last ones in THE TEXT; a FAULT changes nothing at all. */
    private static void sameBoundsInTexts(Face f) {
        for (int k = 0; k < f.kinds().length(); k++) {
            int[] bounds = boundsOf(f.kinds().charAt(k));
            for (int wrong : new int[] {bounds[0] - 1, bounds[1] + 1, -999, 999}) {
                int[] a = with(f.right(), k, wrong);
                String text = orderOf(f, a);
                for (int kind = 0; kind < 3; kind++) {
                    Pictures.changesNothing("does() of " + text, metWith(kind, text), metWith(kind, text), PictureMoves::does, -10 - placeOf(a, k));
                }
            }
            for (int edge : bounds) {
                int[] a = with(f.right(), k, edge);
                sameByTextAsByCall(f, a);
            }
        }
    }

    private static void sameByTextAsByCall(Face f, int[] a) {
        String text = orderOf(f, a);
        PictureMoves byText = metWith(1, text);
        PictureMoves byCall = metWith(1, text);
        long answer = f.told().on(byCall, a);
        boolean refusedNo = f.sign() == 'f' && answer == PictureMoves.NO;
        Due.due("does() of " + text, byText.does(), f.sign() == 'o' || refusedNo ? 0 : answer);
        for (int t = 0; t < 3; t++) {
            Due.holds("picture " + t + " by " + text, Arrays.equals(Pictures.rows(byText, t), Pictures.rows(byCall, t)));
        }
        for (int what = 3; what <= 4; what++) {
            Due.due("told(" + what + ") by " + text, byText.told(what), byCall.told(what));
        }
        Due.due("told(5) by " + text, byText.told(5), 4);
        Due.due("refused by " + text, byText.told(0) + byText.told(1) + byText.told(2), 0);
    }

    /** Every call of the face that takes numbers is in the table, so that none is forgotten. */
    private static void allCallsAreTold() {
        List<String> names = new ArrayList<>();
        for (var m : PictureMoves.class.getDeclaredMethods()) {
            if (java.lang.reflect.Modifier.isPublic(m.getModifiers()) && m.getParameterCount() > 0) {
                names.add(m.getName() + m.getParameterCount());
            }
        }
        List<String> told = new ArrayList<>();
        for (Face f : FACES) {
            told.add(f.name() + f.kinds().length());
        }
        names.sort(null);
        told.sort(null);
        Due.holds("calls with numbers: " + names + ", told: " + told, names.equals(told));
    }

    public static void main(String[] args) {
        allCallsAreTold();
        for (Face f : FACES) {
            firstOnesNotAllowed(f);
            allWrongAtOnce(f);
            lastOnesAllowed(f);
            if (f.sign() != ' ') {
                sameBoundsInTexts(f);
            }
        }
        Due.end();
    }
}
