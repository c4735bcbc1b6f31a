import java.io.IOException;
import java.lang.reflect.Method;
import java.lang.reflect.Modifier;
import java.net.URL;
import java.net.URLClassLoader;
import java.nio.file.Files;
import java.nio.file.Path;
import java.util.ArrayList;
import java.util.List;
import java.util.Set;
import java.util.TreeSet;
import java.util.regex.Matcher;
import java.util.regex.Pattern;
import java.util.stream.Stream;
import javax.tools.JavaCompiler;
import javax.tools.ToolProvider;

/**
 * What README.md shows: its pieces of Java are compiled and run, and each answer that stands behind a call, a join or a text
 * is the one that the class gives.
 */
public final class PictureMovesReadme {
    /** A line that calls p tells the answer first, behind the slashes: a number or the name of a constant. */
    private static final Pattern CALL = Pattern.compile("(p\\.(\\w+)\\(.*\\)); *// (-?\\d+|BAD|NO|FULL|NONE)(:.*)?");
    private static final Pattern JOIN_ROW = Pattern.compile("\\| (\\d+) \\| `([^`]+)` \\|.*");
    private static final Pattern TEXT_ROW = Pattern.compile("\\| `([^`]+)` \\| (-?\\d+) \\|.*");
    private static final Pattern TEST_FILE = Pattern.compile("src/test/java/(\\w+\\.java)");

    /** A call that README.md shows, in its order within the piece. */
    private record Shown(int line, String call, long answer) { }

    /** A row of the table of joins: its number, and the dot that comes, as Java. */
    private record Join(int number, String comes) { }

    private final List<String> lines;
    private final List<List<Shown>> pieces = new ArrayList<>();
    private final List<Join> joins = new ArrayList<>();
    private final Set<String> callsShown = new TreeSet<>();
    private final StringBuilder program = new StringBuilder("public final class ReadmePieces {\n");

    private PictureMovesReadme(List<String> lines) {
        this.lines = lines;
    }

    private static long valueOf(String answer) {
        switch (answer) {
            case "NONE": return PictureMoves.NONE;
            case "BAD": return PictureMoves.BAD;
            case "NO": return PictureMoves.NO;
            case "FULL": return PictureMoves.FULL;
            default: return Long.parseLong(answer);
        }
    }

    /** Each piece becomes two methods: one just as shown, one that hands out what its calls answered. */
    private void takesPieces() {
        int begin = -1;
        for (int k = 0; k < lines.size(); k++) {
            if (lines.get(k).equals("```java")) {
                begin = k + 1;
            } else if (lines.get(k).equals("```") && begin >= 0) {
                takesPiece(begin, k);
                begin = -1;
            }
        }
        Due.holds("README.md's last piece ends", begin < 0);
    }

    private void takesPiece(int begin, int end) {
        List<Shown> calls = new ArrayList<>();
        StringBuilder asked = new StringBuilder();
        for (int k = begin; k < end; k++) {
            String line = lines.get(k);
            Matcher call = CALL.matcher(line);
            if (call.matches()) {
                asked.append("got[").append(calls.size()).append("] = ").append(call.group(1)).append(";\n");
                calls.add(new Shown(k + 1, call.group(1), valueOf(call.group(3))));
                callsShown.add(call.group(2));
            } else {
                Due.holds("README.md, line " + (k + 1) + " tells what the call answers: " + line, !line.startsWith("p."));
                asked.append(line).append('\n');
            }
        }
        int number = pieces.size();
        String shown = String.join("\n", lines.subList(begin, end));
        program.append("public static void shown").append(number).append("() {\n").append(shown).append("\n}\n");
        program.append("public static long[] asked").append(number).append("() {\nlong[] got = new long[").append(calls.size()).append("];\n")
            .append(asked).append("return got;\n}\n");
        pieces.add(calls);
    }

    private void takesJoins() {
        for (String line : lines) {
            Matcher row = JOIN_ROW.matcher(line.replace("\\|", "OR"));
            if (row.matches()) {
                Join join = new Join(Integer.parseInt(row.group(1)), row.group(2).replace("OR", "|"));
                program.append("public static int join").append(join.number()).append("(int s, int p, int d) {\nreturn ").append(join.comes()).append(";\n}\n");
                joins.add(join);
            }
        }
    }

    private Class<?> compiled(Path dir) throws Exception {
        Path source = dir.resolve("ReadmePieces.java");
        Files.writeString(source, program + "}\n");
        JavaCompiler javac = ToolProvider.getSystemJavaCompiler();
        Due.holds("javac is there", javac != null);
        int status = javac == null ? -1 : javac.run(null, null, null, "--release", "17", "-cp", System.getProperty("java.class.path"), "-d", dir.toString(), source.toString());
        Due.due("javac of README.md's pieces", status, 0);
        return status != 0 ? null : new URLClassLoader(new URL[] {dir.toUri().toURL()}).loadClass("ReadmePieces");
    }

    private void runs(Class<?> made) throws Exception {
        for (int k = 0; k < pieces.size(); k++) {
            made.getMethod("shown" + k).invoke(null);
            long[] got = (long[]) made.getMethod("asked" + k).invoke(null);
            for (int call = 0; call < got.length; call++) {
                Shown shown = pieces.get(k).get(call);
                Due.due("README.md, line " + shown.line() + ": " + shown.call(), got[call], shown.answer());
            }
        }
        for (Join join : joins) {
            runsJoin(join, made.getMethod("join" + join.number(), int.class, int.class, int.class));
        }
    }

    /** The eight ways that three dots can be, on the class itself and by what README.md says of them. */
    private static void runsJoin(Join join, Method comes) throws Exception {
        for (int way = 0; way < 8; way++) {
            int s = way >> 2, p = way >> 1 & 1, d = way & 1;
            PictureMoves x = new PictureMoves();
            x.dot(0, 0, 0, s);
            x.pattern(0, p * 128);
            x.dot(1, 0, 0, d);
            x.joins(0, 1, join.number());
            String what = "join " + join.number() + " of s " + s + ", p " + p + ", d " + d;
            Due.due("README.md: " + what, x.at(1, 0, 0), (int) comes.invoke(null, s, p, d));
        }
    }

    private int runsTexts() {
        int texts = 0;
        for (int k = 0; k < lines.size(); k++) {
            Matcher row = TEXT_ROW.matcher(lines.get(k));
            if (row.matches()) {
                PictureMoves x = Pictures.typed(row.group(1));
                Due.due("README.md, line " + (k + 1) + ": does() of " + row.group(1), x.does(), Long.parseLong(row.group(2)));
                texts++;
            }
        }
        return texts;
    }

    /** README.md shows each call of the face; and of a piece, a table, nothing was passed over unseen. */
    private void showsAll(int texts) {
        for (Method m : PictureMoves.class.getDeclaredMethods()) {
            if (Modifier.isPublic(m.getModifiers())) {
                Due.holds("README.md shows " + m.getName(), callsShown.contains(m.getName()));
            }
        }
        long rows = lines.stream().filter(line -> line.startsWith("|")).count();
        Due.due("rows of README.md's two tables, but for their heads", rows - 4, joins.size() + texts);
        Due.holds("README.md has pieces, joins and texts", !pieces.isEmpty() && !joins.isEmpty() && texts > 0);
    }

    /** README.md names each file of the tests, and none that is not there. */
    private void namesTests() throws IOException {
        Set<String> named = new TreeSet<>();
        for (String line : lines) {
            Matcher file = TEST_FILE.matcher(line);
            while (file.find()) {
                named.add(file.group(1));
            }
        }
        Set<String> there = new TreeSet<>();
        try (Stream<Path> files = Files.list(Path.of("src/test/java"))) {
            files.forEach(file -> there.add(file.getFileName().toString()));
        }
        Due.holds("README.md names the tests " + there + ", named are " + named, named.equals(there));
    }

    /** Another page may be given by its path. */
    public static void main(String[] args) throws Exception {
        Path page = Path.of(args.length > 0 ? args[0] : "README.md");
        PictureMovesReadme readme = new PictureMovesReadme(Files.readAllLines(page));
        readme.takesPieces();
        readme.takesJoins();
        Path dir = Files.createTempDirectory("readme");
        Class<?> made = readme.compiled(dir);
        if (made != null) {
            readme.runs(made);
        }
        readme.showsAll(readme.runsTexts());
        readme.namesTests();
        try (Stream<Path> files = Files.list(dir)) {
            for (Path file : files.toList()) {
                Files.delete(file);
            }
        }
        Files.delete(dir);
        Due.end();
    }
}
