import java.io.IOException;
import java.lang.reflect.Field;
import java.lang.reflect.Method;
import java.lang.reflect.Modifier;
import java.nio.file.Files;
import java.nio.file.Path;
import java.util.List;
import java.util.Set;
import java.util.TreeSet;
import java.util.regex.Matcher;
import java.util.regex.Pattern;

/** The rules of ../shared/LANGUAGE.md that can be seen from the file or the class without reading it all. */
final class LanguageTest {
    private static final String FACE = "all(int) at(int,int) back(int) best(int) between(int,int) blots() canBe() canon(int,int) "
        + "cheapest(int,int) compare(int) compass(int) count(int) drawn(int,int) end(int) fault() "
        + "feed(int,int,int,int,int) force(int) forget() heard(int,int) image(int) law() listen(int) mend(int) "
        + "note(int,int) of(int,int) orders() parallels(int) pass() richest() row() set(int,int) shift(int,int) "
        + "status() stopped() swap() terms(int,int) undo() weeks(int,int) few(int,int):long ways():long";
    private static final List<String> BANNED = List.of("throw", "try", "catch", "synchronized", "assert", "lambda", "Random",
        "Thread", "System.out", "nanoTime", "currentTimeMillis", "Exception", "Object", "Exact", "String[]", "Integer[]",
        "->", "::", "protected", "volatile", "transient", "native", "static {", "interface", "Map", "Set<", "Stream");

    private static final Set<String> LIBRARY = Set.of("System.arraycopy", "Arrays.copyOf", "Arrays.copyOfRange", "Arrays.fill",
        "List.of", "Math.abs", "Math.max", "Math.min", "Math.floorDiv", "Math.floorMod", "Integer.compare", "Integer.max",
        "Integer.min", "Integer.bitCount", "Long.compare", "Long.max", "Long.min", "Long.bitCount");

    private LanguageTest() {
    }

    static void run(Path file) throws IOException {
        Check.about("LANGUAGE");
        face();
        String text = Files.readString(file);
        for (int i = 0; i < text.length(); i++) {
            if (text.charAt(i) > 127 || text.charAt(i) < 1) {
                Check.due("a sign beyond 127 at " + i, text.charAt(i), 127);
            }
        }
        String code = text.replaceAll("(?s)/\\*.*?\\*/", "").replaceAll("//[^\n]*", "").replaceAll("\"[^\"\n]*\"", "\"\"");
        for (String b : BANNED) {
            boolean word = b.matches("[a-zA-Z]+");
            boolean found = word ? Pattern.compile("\\b" + b + "\\b").matcher(code).find() : code.contains(b);
            Check.due("\"" + b + "\" in the file", found ? 1 : 0, 0);
        }
        Check.due("a package line", Pattern.compile("(?m)^package ").matcher(code).find() ? 1 : 0, 0);
        Matcher imports = Pattern.compile("import ([^;]+);").matcher(code);
        while (imports.find()) {
            boolean allowed = Set.of("java.util.Arrays", "java.util.ArrayList", "java.util.List").contains(imports.group(1));
            Check.due("import " + imports.group(1), allowed ? 1 : 0, 1);
        }
        library(code);
        methods(code);
    }

    /** Rule 4 by its letter: a constant of the library that no rule lists is outside, too. */
    private static void library(String code) {
        Matcher uses = Pattern.compile("\\b([A-Z][a-zA-Z]*[a-z][a-zA-Z]*)\\.([a-zA-Z_]+)").matcher(code.replaceAll("import [^;]+;", ""));
        while (uses.find()) {
            Check.due("the library's " + uses.group(), LIBRARY.contains(uses.group()) ? 1 : 0, 1);
        }
    }

    private static void face() {
        Class<?> desk = CounterDesk.class;
        Check.due("public and final", desk.getModifiers() & (Modifier.PUBLIC | Modifier.FINAL), Modifier.PUBLIC | Modifier.FINAL);
        Check.due("constructors", desk.getDeclaredConstructors().length, 1);
        Check.due("a public constructor", desk.getConstructors().length, 1);
        Set<String> want = new TreeSet<>(List.of(FACE.split(" ")));
        Set<String> names = new TreeSet<>();
        Set<String> got = new TreeSet<>();
        for (Method m : desk.getDeclaredMethods()) {
            if (!Modifier.isPrivate(m.getModifiers())) {
                StringBuilder s = new StringBuilder(m.getName()).append('(');
                for (Class<?> p : m.getParameterTypes()) {
                    s.append(s.charAt(s.length() - 1) == '(' ? "" : ",").append(p.getName());
                }
                s.append(m.getReturnType() == long.class ? "):long" : ")");
                got.add(s.toString());
                names.add(m.getName());
            }
        }
        Check.due("the face " + got, got.equals(want) ? 1 : 0, 1);
        for (Field f : desk.getDeclaredFields()) {
            boolean isPrivate = Modifier.isPrivate(f.getModifiers());
            Check.due("field " + f.getName(), isPrivate || f.getName().equals("NONE") ? 1 : 0, 1);
        }
        Check.due("classes", desk.getDeclaredClasses().length + 1 <= 12 ? 1 : 0, 1);
        inside(desk, Set.of());
        for (Class<?> c : desk.getDeclaredClasses()) {
            Check.due(c + " is static", Modifier.isStatic(c.getModifiers()) ? 1 : 0, 1);
            Check.due(c + " is not public", c.getModifiers() & (Modifier.PUBLIC | Modifier.PROTECTED), 0);
            inside(c, names);
        }
    }

    private static void inside(Class<?> c, Set<String> taken) {
        int fields = 0;
        for (Field f : c.getDeclaredFields()) {
            fields += Modifier.isStatic(f.getModifiers()) ? 0 : 1;
            boolean isFinal = Modifier.isFinal(f.getModifiers());
            Check.due(f + " is final if it is static", isFinal || !Modifier.isStatic(f.getModifiers()) ? 1 : 0, 1);
        }
        Check.due(c + " has twenty fields at most, not " + fields, fields <= 20 ? 1 : 0, 1);
        for (Method m : c.getDeclaredMethods()) {
            Check.due(m + " has seven parameters at most", m.getParameterCount() <= 7 ? 1 : 0, 1);
            Check.due(m + " bears no public name", taken.contains(m.getName()) ? 1 : 0, 0);
        }
    }

    /** Methods of sixty lines at most; a method begins at four or eight blanks and ends with a bracket at as many. */
    private static void methods(String code) {
        String[] lines = code.split("\n", -1);
        for (int i = 0; i < lines.length; i++) {
            Matcher m = Pattern.compile("^(    |        )[a-zA-Z].*\\) \\{$").matcher(lines[i]);
            if (!m.matches()) {
                continue;
            }
            int end = i;
            while (end < lines.length && !lines[end].equals(m.group(1) + "}")) {
                end++;
            }
            Check.due("a method of " + (end - i) + " lines: " + lines[i].trim(), end - i <= 60 ? 1 : 0, 1);
        }
    }
}
