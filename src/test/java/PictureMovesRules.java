import java.io.IOException;
import java.lang.reflect.Constructor;
import java.lang.reflect.Field;
import java.lang.reflect.Method;
import java.lang.reflect.Modifier;
import java.nio.file.Files;
import java.nio.file.Path;
import java.util.ArrayList;
import java.util.Arrays;
import java.util.List;
import java.util.Map;
import java.util.Set;
import java.util.TreeMap;
import java.util.TreeSet;
import java.util.regex.Matcher;
import java.util.regex.Pattern;

/** The face of the class and those rules of ../shared/LANGUAGE.md that can be seen from outside. */
public final class PictureMovesRules {
    private static final String[] FACE = {
        "int dot(int,int,int,int)", "int pattern(int,int)", "int draw(int,int)", "int opening(int,int,int,int)", "int closes()",
        "int move(int,int,int,int,int,int,int,int,int)", "int line(int,int,int,int,int,int)", "int flood(int,int,int)",
        "int rectangle(int,int,int,int,int,int)", "int letter(int,int,int,int,int)", "int joins(int,int,int)",
        "int changes(int,int)", "int rolls(int,int,int)", "int at(int,int,int)", "int row(int,int)", "int of(int,int)",
        "int count(int,int,int,int,int)", "int unlike(int,int)", "int finds(int,int,int,int,int,int)", "int open(int,int)",
        "int type(int)", "int clear()", "int does()", "int back()", "int told(int)", "long digest()"};

    private static String shown(Method m) {
        StringBuilder out = new StringBuilder(m.getReturnType() + " " + m.getName() + "(");
        for (int k = 0; k < m.getParameterCount(); k++) {
            out.append(k == 0 ? "" : ",").append(m.getParameterTypes()[k]);
        }
        return out.append(")").toString();
    }

    private static Set<String> face() {
        Class<?> c = PictureMoves.class;
        Set<String> names = new TreeSet<>();
        Set<String> found = new TreeSet<>();
        for (Method m : c.getDeclaredMethods()) {
            if (Modifier.isPublic(m.getModifiers())) {
                found.add(shown(m));
                names.add(m.getName());
            } else {
                Due.holds(m + " is private", Modifier.isPrivate(m.getModifiers()));
            }
        }
        Due.holds("the face is " + Arrays.toString(FACE) + ", found " + found, found.equals(new TreeSet<>(Arrays.asList(FACE))));
        Due.holds("public and final", Modifier.isPublic(c.getModifiers()) && Modifier.isFinal(c.getModifiers()));
        Constructor<?>[] made = c.getDeclaredConstructors();
        Due.holds("one public constructor", made.length == 1 && Modifier.isPublic(made[0].getModifiers()) && made[0].getParameterCount() == 0);
        Set<String> constants = new TreeSet<>();
        for (Field f : c.getDeclaredFields()) {
            if (Modifier.isPublic(f.getModifiers())) {
                constants.add(f.getType() + " " + f.getName());
            } else {
                Due.holds(f + " is private", Modifier.isPrivate(f.getModifiers()));
            }
        }
        Due.holds("the constants, found " + constants, constants.equals(new TreeSet<>(Arrays.asList("int BAD", "int FULL", "int NO", "int NONE"))));
        return names;
    }

    private static void classes(Class<?> c, Set<String> publicNames) {
        Due.holds("twelve classes at most", c.getDeclaredClasses().length < 12);
        for (Class<?> inside : c.getDeclaredClasses()) {
            Due.holds(inside + " is static and not public", Modifier.isStatic(inside.getModifiers()) && !Modifier.isPublic(inside.getModifiers()));
            members(inside, publicNames);
        }
        members(c, publicNames);
    }

    private static void members(Class<?> c, Set<String> publicNames) {
        int fields = 0;
        for (Field f : c.getDeclaredFields()) {
            boolean isStatic = Modifier.isStatic(f.getModifiers());
            Due.holds(f + " is final, if static", !isStatic || Modifier.isFinal(f.getModifiers()));
            fields += isStatic ? 0 : 1;
        }
        Due.holds(c + " has twenty fields at most", fields <= 20);
        for (Method m : c.getDeclaredMethods()) {
            boolean ofTheFace = c == PictureMoves.class && Modifier.isPublic(m.getModifiers());
            Due.holds(m + " has a name of its own", ofTheFace || !publicNames.contains(m.getName()));
            Due.holds(m + " takes seven numbers at most", ofTheFace || m.getParameterCount() <= 7);
        }
    }

    /** The source without comments and without what stands in quotes. */
    private static String bare(String source) {
        return source.replaceAll("(?s)/\\*.*?\\*/", "").replaceAll("//[^\n]*", "")
            .replaceAll("\"(\\\\.|[^\"\\\\])*\"", "\"\"").replaceAll("'(\\\\.|[^'\\\\])'", "' '");
    }

    private static void source(String source) {
        String[] banned = {"throw", "throws", "try", "catch", "finally", "synchronized", "assert", "package", "equals", "hashCode",
            "toString", "getClass", "Object", "Exception", "Error", "Thread", "Random", "System\\.(?!arraycopy)", "->", "::",
            "float", "double", "protected", "native", "volatile", "transient", "Exact", "@"};
        String bare = bare(source);
        for (String word : banned) {
            String regex = Character.isLetter(word.charAt(0)) && !word.contains("(") ? "\\b\\w*" + word + "\\b" : word;
            Matcher m = Pattern.compile(regex).matcher(bare);
            Due.holds("no " + word + " in the source", !m.find());
        }
        Matcher imports = Pattern.compile("import [^;]*;").matcher(bare);
        while (imports.find()) {
            Due.holds("imports what is listed: " + imports.group(), imports.group().equals("import java.util.Arrays;"));
        }
        for (int k = 0; k < source.length(); k++) {
            if (source.charAt(k) > 126) {
                Due.holds("signs 1 to 127 alone", false);
            }
        }
        methodsAreShort(bare);
        libraryIsListed(bare);
    }

    /** The methods and constructors of the source by name, each with its lines; what bears the same name is joined. */
    private static Map<String, List<String>> bodies(String bare) {
        Pattern begin = Pattern.compile("( {4}| {8})(?:[\\w\\[\\]]+ )*(\\w+)\\([^;]*\\) \\{");
        Set<String> words = Set.of("if", "for", "while", "switch");
        Map<String, List<String>> found = new TreeMap<>();
        List<String> body = null;
        String end = "";
        for (String line : bare.split("\n")) {
            Matcher m = begin.matcher(line);
            if (body == null && m.matches() && !words.contains(m.group(2))) {
                body = found.computeIfAbsent(m.group(2), name -> new ArrayList<>());
                end = m.group(1) + "}";
            } else if (body != null && line.equals(end)) {
                body = null;
            } else if (body != null) {
                body.add(line);
            }
        }
        Due.holds("the last method ends", body == null);
        return found;
    }

    /** Rules 8 and 11: no recursion, calls eight deep at most, methods of some sixty lines. */
    private static void methodsAreShort(String bare) {
        Map<String, List<String>> bodies = bodies(bare);
        for (Method m : PictureMoves.class.getDeclaredMethods()) {
            Due.holds(m.getName() + " is found in the source", bodies.containsKey(m.getName()));
        }
        for (Map.Entry<String, List<String>> method : bodies.entrySet()) {
            Due.holds(method.getKey() + " has sixty lines at most", method.getValue().size() <= 60);
            int deep = deep(method.getKey(), bodies, 1);
            Due.holds(method.getKey() + " goes eight calls deep at most, without recursion: " + deep, deep <= 8);
        }
    }

    /** How deep calls go from a method on; a recursion shows as deeper than any that is allowed. */
    private static int deep(String name, Map<String, List<String>> bodies, int level) {
        int deepest = level;
        if (level <= 8) {
            Matcher call = Pattern.compile("(\\w+)\\(").matcher(String.join("\n", bodies.get(name)));
            while (call.find()) {
                if (bodies.containsKey(call.group(1))) {
                    deepest = Math.max(deepest, deep(call.group(1), bodies, level + 1));
                }
            }
        }
        return deepest;
    }

    /** Rule 4, more narrowly: the library's calls that the program needs; one more is added here by whoever needs it. */
    private static void libraryIsListed(String bare) {
        Set<String> listed = Set.of("Math.max", "Math.min", "Math.abs", "Math.floorDiv", "Math.floorMod", "Integer.bitCount",
            "Arrays.fill", "System.arraycopy");
        Set<String> onTexts = Set.of("length", "charAt", "isEmpty");
        Map<String, List<String>> bodies = bodies(bare);
        Matcher call = Pattern.compile("([\\w)\\]]+)\\.(\\w+)\\(").matcher(bare);
        while (call.find()) {
            String shown = call.group(1) + "." + call.group(2);
            Due.holds("own or listed: " + shown, listed.contains(shown) || onTexts.contains(call.group(2)) || bodies.containsKey(call.group(2)));
        }
    }

    /** No call makes an object, so a run of any length stays as small as a new object. */
    private static void callsMakeNothing(String bare) {
        int made = bare.split("\\bnew\\b", -1).length - 1;
        int inFields = 0;
        Matcher m = Pattern.compile("(?m)^ +(final [\\w\\[\\]]+ \\w+ = new |\\w+ = new |\\w+ new\\w+ = new |kept\\[k\\] = new )").matcher(bare);
        while (m.find()) {
            inFields++;
        }
        Due.due("objects made beside fields and constructors", made - inFields, 0);
    }

    /** Another source may be given by its path. */
    public static void main(String[] args) throws IOException {
        Set<String> publicNames = face();
        classes(PictureMoves.class, publicNames);
        String source = Files.readString(Path.of(args.length > 0 ? args[0] : "src/main/java/PictureMoves.java"));
        source(source);
        callsMakeNothing(bare(source));
        Due.end();
    }
}
