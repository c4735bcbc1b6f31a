import java.util.Random;

/** Long runs of calls, made from fixed seeds, on PictureMoves and on the model: every answer must be the same. */
public final class PictureMovesAgainstModel {
    private static final int RUNS = 1500, CALLS = 512;
    private static final int[] JOINS = {0, 255, 240, 204, 170, 85, 60, 90, 150, 232, 15, 252, 192, 195, 102, 17};
    private static final int[] WILD = {Integer.MIN_VALUE, Integer.MIN_VALUE + 1, -1000, 1000, 65536, Integer.MAX_VALUE};

    private final Random random;
    private final PictureMoves program = new PictureMoves();
    private final PictureMovesModel model = new PictureMovesModel();
    private final boolean wild;

    private PictureMovesAgainstModel(long seed) {
        random = new Random(seed);
        wild = seed % 3 == 0;
    }

    /** Mostly within the bounds, now and then at or just beyond them. */
    private int number(int least, int greatest) {
        int way = random.nextInt(wild ? 40 : 400);
        switch (way) {
            case 0: return least - 1;
            case 1: return greatest + 1;
            case 2: return WILD[random.nextInt(WILD.length)];
            case 3: case 4: case 5: return least;
            case 6: case 7: case 8: return greatest;
            default: return least + random.nextInt(greatest - least + 1);
        }
    }

    private int picture() { return number(0, 2); }
    private int place() { return random.nextInt(4) == 0 ? number(-64, 63) : number(-8, 36); }
    private int size() { return random.nextInt(3) == 0 ? number(1, 64) : number(1, 16); }
    private int join() { return random.nextBoolean() ? JOINS[random.nextInt(JOINS.length)] : number(0, 255); }

    private long[] call() {
        int a, b, c, d, e, f, g, h, i;
        switch (random.nextInt(30)) {
            case 0: a = picture(); b = number(0, 31); c = number(0, 23); d = number(0, 1);
                return both(program.dot(a, b, c, d), model.dot(a, b, c, d));
            case 1: a = number(0, 7); b = number(0, 255);
                return both(program.pattern(a, b), model.pattern(a, b));
            case 2: a = picture(); b = number(0, 999999);
                return both(program.draw(a, b), model.draw(a, b));
            case 3: a = place(); b = place(); c = size(); d = size();
                return both(program.opening(a, b, c, d), model.opening(a, b, c, d));
            case 4: return random.nextInt(3) == 0 ? both(program.closes(), model.closes()) : call();
            case 5: case 6: case 7: a = picture(); b = place(); c = place(); d = size(); e = size();
                f = random.nextBoolean() ? a : picture(); g = place(); h = place(); i = join();
                return both(program.move(a, b, c, d, e, f, g, h, i), model.move(a, b, c, d, e, f, g, h, i));
            case 8: case 9: a = picture(); b = place(); c = place(); d = place(); e = place(); f = join();
                return both(program.line(a, b, c, d, e, f), model.line(a, b, c, d, e, f));
            case 10: case 11: a = picture(); b = place(); c = place();
                return both(program.flood(a, b, c), model.flood(a, b, c));
            case 12: a = picture(); b = place(); c = place(); d = size(); e = size(); f = join();
                return both(program.rectangle(a, b, c, d, e, f), model.rectangle(a, b, c, d, e, f));
            case 13: a = picture(); b = number(0, 15); c = place(); d = place(); e = join();
                return both(program.letter(a, b, c, d, e), model.letter(a, b, c, d, e));
            case 14: a = picture(); b = picture(); c = join();
                return both(program.joins(a, b, c), model.joins(a, b, c));
            case 15: a = picture(); b = number(0, 4);
                return both(program.changes(a, b), model.changes(a, b));
            case 16: a = picture(); b = number(-31, 31); c = number(-31, 31);
                return both(program.rolls(a, b, c), model.rolls(a, b, c));
            case 17: a = picture(); b = place(); c = place();
                return both(program.at(a, b, c), model.at(a, b, c));
            case 18: a = picture(); b = number(0, 23);
                return both(program.row(a, b), model.row(a, b));
            case 19: case 20: a = picture(); b = number(0, 6);
                return both(program.of(a, b), model.of(a, b));
            case 21: a = picture(); b = place(); c = place(); d = size(); e = size();
                return both(program.count(a, b, c, d, e), model.count(a, b, c, d, e));
            case 22: a = picture(); b = picture();
                return both(program.unlike(a, b), model.unlike(a, b));
            case 23: a = picture(); d = number(1, random.nextBoolean() ? 3 : 8); e = number(1, random.nextBoolean() ? 3 : 8);
                b = number(0, 32 - Math.floorMod(d, 9)); c = number(0, 24 - Math.floorMod(e, 9)); f = picture();
                return both(program.finds(a, b, c, d, e, f), model.finds(a, b, c, d, e, f));
            case 24: a = number(0, 31); b = number(0, 23);
                return both(program.open(a, b), model.open(a, b));
            case 25: return typing();
            case 26: return both(program.back(), model.back());
            case 27: a = number(0, 5);
                return both(program.told(a), model.told(a));
            case 28: return random.nextInt(4) == 0 ? both(program.clear(), model.clear()) : both(program.does(), model.does());
            default: return both(program.digest(), model.digest());
        }
    }

    private static long[] both(long got, long want) { return new long[] {got, want}; }

    /** A whole text, or a byte of it, as one step; what was typed last is done at once. */
    private long[] typing() {
        if (random.nextInt(4) != 0) {
            program.clear();
            model.clear();
        }
        String orders = text();
        for (int k = 0; k < orders.length(); k++) {
            int c = orders.charAt(k);
            long got = program.type(c);
            long want = model.type(c);
            if (got != want) return both(got, want);
        }
        if (random.nextInt(8) == 0) {
            int c = number(0, 127);
            return both(program.type(c), model.type(c));
        }
        return both(program.does(), model.does());
    }

    private String text() {
        StringBuilder out = new StringBuilder();
        int orders = 1 + random.nextInt(5);
        for (int k = 0; k < orders; k++) order(out);
        int spoils = random.nextInt(3) == 0 ? 1 + random.nextInt(2) : 0;
        for (int k = 0; k < spoils && out.length() > 0; k++) spoil(out);
        return out.toString();
    }

    private void order(StringBuilder out) {
        String signs = "mlfrcook";
        String[] shapes = {"pxxwwpxxj", "pxxxxj", "pxx", "pxxwwj", "pnxxj", "xxww", "xxww", ""};
        int which = random.nextInt(signs.length());
        blanks(out);
        out.append(signs.charAt(which));
        boolean figureAhead = false;
        for (char kind : shapes[which].toCharArray()) {
            int v = kind == 'p' ? picture() : kind == 'x' ? place() : kind == 'w' ? size() : kind == 'n' ? number(0, 15) : join();
            String number = Integer.toString(v);
            if (random.nextInt(12) == 0) number = number.startsWith("-") ? "-0" + number.substring(1) : "0" + number;
            if (figureAhead && (!number.startsWith("-") || random.nextInt(3) == 0)) out.append(' ');
            blanks(out);
            out.append(number);
            figureAhead = true;
        }
        blanks(out);
        out.append(';');
        blanks(out);
    }

    private void blanks(StringBuilder out) {
        if (random.nextInt(12) == 0) out.append("  ", 0, 1 + random.nextInt(2));
    }

    private void spoil(StringBuilder out) {
        String bytes = " -;0123456789mlfrcokxM\t";
        int at = random.nextInt(out.length());
        switch (random.nextInt(4)) {
            case 0: out.deleteCharAt(at); break;
            case 1: out.insert(at, bytes.charAt(random.nextInt(bytes.length()))); break;
            case 2: out.setCharAt(at, bytes.charAt(random.nextInt(bytes.length()))); break;
            default: out.setLength(at);
        }
    }

    public static void main(String[] args) {
        int runs = args.length > 0 ? Integer.parseInt(args[0]) : RUNS;
        for (int run = 0; run < runs; run++) {
            PictureMovesAgainstModel pair = new PictureMovesAgainstModel(run);
            boolean same = true;
            for (int k = 0; k < CALLS && same; k++) {
                long[] answers = pair.call();
                same = answers[0] == answers[1];
                if (same && pair.program.digest() != pair.model.digest()) {
                    same = false;
                }
                Due.holds("run " + run + ", step " + k + ": " + answers[0] + " as " + answers[1] + ", and like digests", same);
            }
        }
        Due.end();
    }
}
