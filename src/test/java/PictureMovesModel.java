import java.util.ArrayDeque;
import java.util.ArrayList;
import java.util.List;
import java.util.regex.Matcher;
import java.util.regex.Pattern;

/** The document's words, dot by dot, without regard to speed: what PictureMoves is compared with. */
final class PictureMovesModel {
    static final int NONE = -1, BAD = -2, NO = -3, FULL = -4;

    private static final class State {
        int[][][] dots = new int[3][24][32];
        int[][] pattern = new int[8][8];
        List<int[]> openings = new ArrayList<>();

        State copy() {
            State c = new State();
            for (int t = 0; t < 3; t++) for (int y = 0; y < 24; y++) c.dots[t][y] = dots[t][y].clone();
            for (int y = 0; y < 8; y++) c.pattern[y] = pattern[y].clone();
            c.openings.addAll(openings);
            return c;
        }
    }

    private State now = new State();
    private final ArrayDeque<State> past = new ArrayDeque<>();
    private final StringBuilder text = new StringBuilder();
    private final int[] refused = new int[3];

    PictureMovesModel() {
        for (int[] row : now.pattern) java.util.Arrays.fill(row, 1);
    }

    private int refuse(int why) {
        refused[why == BAD ? 0 : why == NO ? 1 : 2]++;
        return why;
    }

    private void keep() {
        past.addLast(now.copy());
        if (past.size() > 6) past.removeFirst();
    }

    private static boolean in(int v, int a, int b) { return a <= v && v <= b; }
    private static boolean pic(int... ts) { for (int t : ts) if (!in(t, 0, 2)) return false; return true; }
    private static boolean far(int... vs) { for (int v : vs) if (!in(v, -64, 63)) return false; return true; }
    private static boolean size(int... vs) { for (int v : vs) if (!in(v, 1, 64)) return false; return true; }
    private static boolean join(int j) { return in(j, 0, 255); }
    private static boolean inside(int x, int y) { return in(x, 0, 31) && in(y, 0, 23); }

    private boolean isOpen(int x, int y) {
        if (now.openings.isEmpty()) return true;
        for (int[] o : now.openings) {
            if (x >= o[0] && x <= o[0] + o[2] - 1 && y >= o[1] && y <= o[1] + o[3] - 1) return true;
        }
        return false;
    }

    /** One dot by a join: 1 if it is otherwise. */
    private int put(int t, int x, int y, int s, int j) {
        if (!inside(x, y) || !isOpen(x, y)) return 0;
        int d = now.dots[t][y][x];
        int p = now.pattern[y % 8][x % 8];
        int comes = (int) (j / Math.pow(2, 4 * s + 2 * p + d)) % 2;
        now.dots[t][y][x] = comes;
        return comes == d ? 0 : 1;
    }

    private int replace(int t, int[][] comes) {
        int n = 0;
        for (int y = 0; y < 24; y++) for (int x = 0; x < 32; x++) if (now.dots[t][y][x] != comes[y][x]) n++;
        now.dots[t] = comes;
        return n;
    }

    private int get(int t, int x, int y) { return inside(x, y) ? now.dots[t][y][x] : 0; }

    int dot(int t, int x, int y, int v) {
        if (!pic(t) || !inside(x, y) || !in(v, 0, 1)) return refuse(BAD);
        keep();
        int was = now.dots[t][y][x];
        now.dots[t][y][x] = v;
        return was;
    }

    int pattern(int y, int bits) {
        if (!in(y, 0, 7) || !in(bits, 0, 255)) return refuse(BAD);
        keep();
        int was = patternRow(y);
        for (int x = 0; x < 8; x++) now.pattern[y][x] = bits >> (7 - x) & 1;
        return was;
    }

    private int patternRow(int y) {
        int row = 0;
        for (int x = 0; x < 8; x++) row = 2 * row + now.pattern[y][x];
        return row;
    }

    int draw(int t, int seed) {
        if (!pic(t) || !in(seed, 0, 999999)) return refuse(BAD);
        keep();
        java.math.BigInteger x = java.math.BigInteger.valueOf(seed);
        for (int y = 0; y < 24; y++) {
            for (int half = 0; half < 2; half++) {
                x = x.multiply(java.math.BigInteger.valueOf(1103515245)).add(java.math.BigInteger.valueOf(12345))
                    .mod(java.math.BigInteger.valueOf(2147483648L));
                int bits = (int) (x.longValue() / 32768 % 65536);
                for (int i = 0; i < 16; i++) now.dots[t][y][16 * half + i] = bits >> (15 - i) & 1;
            }
        }
        return of(t, 0);
    }

    int opening(int x, int y, int w, int h) {
        if (!far(x, y) || !size(w, h)) return refuse(BAD);
        if (now.openings.size() == 4) return refuse(FULL);
        keep();
        now.openings.add(new int[] {x, y, w, h});
        return now.openings.size();
    }

    int closes() {
        keep();
        int n = now.openings.size();
        now.openings.clear();
        return n;
    }

    private int doMove(int[] a) {
        int n = 0;
        int[][] source = new int[24][];
        for (int y = 0; y < 24; y++) source[y] = now.dots[a[0]][y].clone();
        for (int i = 0; i < a[3]; i++) {
            for (int k = 0; k < a[4]; k++) {
                int s = inside(a[1] + i, a[2] + k) ? source[a[2] + k][a[1] + i] : 0;
                n += put(a[5], a[6] + i, a[7] + k, s, a[8]);
            }
        }
        return n;
    }

    private int doLine(int[] a) {
        int dx = a[3] - a[1], dy = a[4] - a[2];
        int n = Math.max(Math.abs(dx), Math.abs(dy));
        if (n == 0) return put(a[0], a[1], a[2], 1, a[5]);
        int changed = 0;
        for (int i = 0; i <= n; i++) {
            int x, y;
            if (Math.abs(dx) >= Math.abs(dy)) {
                x = dx > 0 ? a[1] + i : a[1] - i;
                y = a[2] + (int) Math.floor((dy * 2.0 * i + n) / (2.0 * n));
            } else {
                y = dy > 0 ? a[2] + i : a[2] - i;
                x = a[1] + (int) Math.floor((dx * 2.0 * i + n) / (2.0 * n));
            }
            changed += put(a[0], x, y, 1, a[5]);
        }
        return changed;
    }

    private int doFlood(int[] a) {
        int t = a[0], x = a[1], y = a[2];
        if (!inside(x, y) || !isOpen(x, y)) return 0;
        int old = now.dots[t][y][x];
        ArrayDeque<int[]> todo = new ArrayDeque<>();
        now.dots[t][y][x] = 1 - old;
        todo.add(new int[] {x, y});
        int n = 0;
        while (!todo.isEmpty()) {
            int[] p = todo.remove();
            n++;
            for (int[] s : new int[][] {{1, 0}, {-1, 0}, {0, 1}, {0, -1}}) {
                int u = p[0] + s[0], v = p[1] + s[1];
                if (inside(u, v) && isOpen(u, v) && now.dots[t][v][u] == old) {
                    now.dots[t][v][u] = 1 - old;
                    todo.add(new int[] {u, v});
                }
            }
        }
        return n;
    }

    private int doRectangle(int[] a) {
        int n = 0;
        for (int y = a[2]; y < a[2] + a[4]; y++) for (int x = a[1]; x < a[1] + a[3]; x++) n += put(a[0], x, y, 1, a[5]);
        return n;
    }

    private int doLetter(int[] a) {
        int n = 0;
        for (int k = 0; k < 4; k++) {
            int bits = (a[1] * 5 + 3 * k + a[1] / 3) % 16;
            for (int i = 0; i < 4; i++) n += put(a[0], a[2] + i, a[3] + k, bits >> (3 - i) & 1, a[4]);
        }
        return n;
    }

    int move(int s, int x, int y, int w, int h, int t, int toX, int toY, int join) {
        if (!pic(s, t) || !far(x, y, toX, toY) || !size(w, h) || !join(join)) return refuse(BAD);
        keep();
        return doMove(new int[] {s, x, y, w, h, t, toX, toY, join});
    }

    int line(int t, int x0, int y0, int x1, int y1, int join) {
        if (!pic(t) || !far(x0, y0, x1, y1) || !join(join)) return refuse(BAD);
        keep();
        return doLine(new int[] {t, x0, y0, x1, y1, join});
    }

    int flood(int t, int x, int y) {
        if (!pic(t) || !far(x, y)) return refuse(BAD);
        if (!inside(x, y) || !isOpen(x, y)) return refuse(NO);
        keep();
        return doFlood(new int[] {t, x, y});
    }

    int rectangle(int t, int x, int y, int w, int h, int join) {
        if (!pic(t) || !far(x, y) || !size(w, h) || !join(join)) return refuse(BAD);
        keep();
        return doRectangle(new int[] {t, x, y, w, h, join});
    }

    int letter(int t, int n, int x, int y, int join) {
        if (!pic(t) || !in(n, 0, 15) || !far(x, y) || !join(join)) return refuse(BAD);
        keep();
        return doLetter(new int[] {t, n, x, y, join});
    }

    int joins(int s, int t, int join) {
        if (!pic(s, t) || !join(join)) return refuse(BAD);
        keep();
        int n = 0;
        for (int y = 0; y < 24; y++) for (int x = 0; x < 32; x++) n += put(t, x, y, now.dots[s][y][x], join);
        return n;
    }

    int changes(int t, int way) {
        if (!pic(t) || !in(way, 0, 4)) return refuse(BAD);
        keep();
        int[][] comes = new int[24][32];
        for (int y = 0; y < 24; y++) {
            for (int x = 0; x < 32; x++) {
                int here = get(t, x, y);
                int sum = here + get(t, x - 1, y) + get(t, x + 1, y) + get(t, x, y - 1) + get(t, x, y + 1);
                int thin = sum == 5 ? 1 : 0;
                switch (way) {
                    case 0: comes[y][31 - x] = here; break;
                    case 1: comes[23 - y][x] = here; break;
                    case 2: comes[y][x] = sum > 0 ? 1 : 0; break;
                    case 3: comes[y][x] = thin; break;
                    default: comes[y][x] = here == 1 && thin == 0 ? 1 : 0;
                }
            }
        }
        return replace(t, comes);
    }

    int rolls(int t, int x, int y) {
        if (!pic(t) || !in(x, -31, 31) || !in(y, -31, 31)) return refuse(BAD);
        keep();
        int[][] comes = new int[24][32];
        for (int v = 0; v < 24; v++) {
            for (int u = 0; u < 32; u++) comes[(v + y + 48) % 24][(u + x + 32) % 32] = now.dots[t][v][u];
        }
        return replace(t, comes);
    }

    int at(int t, int x, int y) { return pic(t) ? get(t, x, y) : refuse(BAD); }

    int row(int t, int y) {
        if (!pic(t) || !in(y, 0, 23)) { refuse(BAD); return 0; }
        return rowOf(t, y);
    }

    private int rowOf(int t, int y) {
        long row = 0;
        for (int x = 0; x < 32; x++) row = 2 * row + now.dots[t][y][x];
        return (int) row;
    }

    int of(int t, int what) {
        if (!pic(t) || !in(what, 0, 6)) return refuse(BAD);
        int ones = 0, open = 0, left = 99, right = -1, top = 99, bottom = -1;
        for (int y = 0; y < 24; y++) {
            for (int x = 0; x < 32; x++) {
                if (isOpen(x, y)) open++;
                if (now.dots[t][y][x] == 0) continue;
                ones++;
                left = Math.min(left, x);
                right = Math.max(right, x);
                top = Math.min(top, y);
                bottom = Math.max(bottom, y);
            }
        }
        int none = ones == 0 ? NONE : 0;
        switch (what) {
            case 0: return ones;
            case 1: return partsOf(t);
            case 2: return none == NONE ? NONE : left;
            case 3: return right;
            case 4: return none == NONE ? NONE : top;
            case 5: return bottom;
            default: return open;
        }
    }

    /** Each dot of 1 takes the least label beside it until none changes. */
    private int partsOf(int t) {
        int[][] label = new int[24][32];
        for (int y = 0; y < 24; y++) for (int x = 0; x < 32; x++) label[y][x] = now.dots[t][y][x] == 1 ? y * 32 + x + 1 : 0;
        boolean changed = true;
        while (changed) {
            changed = false;
            for (int y = 0; y < 24; y++) {
                for (int x = 0; x < 32; x++) {
                    for (int[] s : new int[][] {{1, 0}, {-1, 0}, {0, 1}, {0, -1}}) {
                        int u = x + s[0], v = y + s[1];
                        if (label[y][x] > 0 && inside(u, v) && label[v][u] > 0 && label[v][u] < label[y][x]) {
                            label[y][x] = label[v][u];
                            changed = true;
                        }
                    }
                }
            }
        }
        int parts = 0;
        for (int y = 0; y < 24; y++) for (int x = 0; x < 32; x++) if (label[y][x] == y * 32 + x + 1) parts++;
        return parts;
    }

    int count(int t, int x, int y, int w, int h) {
        if (!pic(t) || !far(x, y) || !size(w, h)) return refuse(BAD);
        int n = 0;
        for (int v = y; v < y + h; v++) for (int u = x; u < x + w; u++) n += get(t, u, v);
        return n;
    }

    int unlike(int s, int t) {
        if (!pic(s, t)) return refuse(BAD);
        int n = 0;
        for (int y = 0; y < 24; y++) for (int x = 0; x < 32; x++) n += Math.abs(get(s, x, y) - get(t, x, y));
        return n;
    }

    int finds(int s, int x, int y, int w, int h, int t) {
        if (!pic(s, t) || !in(w, 1, 8) || !in(h, 1, 8) || !inside(x, y)) return refuse(BAD);
        if (!inside(x + w - 1, y + h - 1)) return refuse(BAD);
        int n = 0;
        for (int v = 0; v + h <= 24; v++) {
            for (int u = 0; u + w <= 32; u++) {
                boolean same = true;
                for (int k = 0; k < h && same; k++) for (int i = 0; i < w; i++) if (get(s, x + i, y + k) != get(t, u + i, v + k)) same = false;
                if (same) n++;
            }
        }
        return n;
    }

    int open(int x, int y) { return inside(x, y) ? isOpen(x, y) ? 1 : 0 : refuse(BAD); }

    int type(int c) {
        if (!in(c, 0, 127)) return refuse(BAD);
        if (text.length() == 120) return refuse(FULL);
        text.append((char) c);
        return text.length();
    }

    int clear() {
        int n = text.length();
        text.setLength(0);
        return n;
    }

    private static final String SIGNS = "mlfrcok";
    private static final String[] SHAPES = {"pxxwwpxxj", "pxxxxj", "pxx", "pxxwwj", "pnxxj", "xxww", ""};
    private static final Pattern NUMBER = Pattern.compile("-?[0-9]*");

    private static boolean fits(char kind, int v) {
        return kind == 'p' ? pic(v) : kind == 'x' ? far(v) : kind == 'w' ? size(v) : kind == 'n' ? in(v, 0, 15) : join(v);
    }

    private static final class Fault extends RuntimeException {
        final int place;
        Fault(int place) { this.place = place; }
    }

    private int behindBlanks(int from) {
        int p = from;
        while (p < text.length() && text.charAt(p) == ' ') p++;
        return p;
    }

    /** The orders, each with its sign's number first. */
    private List<int[]> orders() {
        List<int[]> all = new ArrayList<>();
        int openings = now.openings.size();
        int p = behindBlanks(0);
        do {
            int sign = p < text.length() ? SIGNS.indexOf(text.charAt(p)) : -1;
            if (sign < 0) throw new Fault(p);
            if (sign == 5 && ++openings > 4) throw new Fault(p);
            if (sign == 6) openings = 0;
            int[] order = new int[SHAPES[sign].length() + 1];
            order[0] = sign;
            p++;
            for (int k = 1; k < order.length; k++) {
                p = behindBlanks(p);
                Matcher m = NUMBER.matcher(text).region(p, text.length());
                m.lookingAt();
                String figures = m.group().replace("-", "");
                if (figures.isEmpty() || figures.length() > 3) throw new Fault(p);
                order[k] = Integer.parseInt(m.group());
                if (!fits(SHAPES[sign].charAt(k - 1), order[k])) throw new Fault(p);
                p = m.end();
            }
            p = behindBlanks(p);
            if (p >= text.length() || text.charAt(p) != ';') throw new Fault(p);
            all.add(order);
            p = behindBlanks(p + 1);
        } while (p < text.length());
        return all;
    }

    int does() {
        List<int[]> all;
        try {
            all = orders();
        } catch (Fault f) {
            return -10 - f.place;
        }
        keep();
        int n = 0;
        for (int[] order : all) {
            int[] a = java.util.Arrays.copyOfRange(order, 1, order.length);
            switch (SIGNS.charAt(order[0])) {
                case 'm': n += doMove(a); break;
                case 'l': n += doLine(a); break;
                case 'f': n += doFlood(a); break;
                case 'r': n += doRectangle(a); break;
                case 'c': n += doLetter(a); break;
                case 'o': now.openings.add(a); break;
                default: now.openings.clear();
            }
        }
        return n;
    }

    int back() {
        if (past.isEmpty()) return refuse(NO);
        now = past.removeLast();
        return past.size();
    }

    int told(int what) {
        if (!in(what, 0, 5)) return refuse(BAD);
        int[] all = {refused[0], refused[1], refused[2], text.length(), now.openings.size(), past.size()};
        return all[what];
    }

    long digest() {
        long h = 2083;
        for (int what = 0; what < 6; what++) h = 31 * h + told(what);
        for (int t = 0; t < 3; t++) for (int y = 0; y < 24; y++) h = 31 * h + rowOf(t, y);
        for (int y = 0; y < 8; y++) h = 31 * h + patternRow(y);
        for (int[] o : now.openings) for (int v : o) h = 31 * h + v;
        return h;
    }
}
