import java.io.IOException;
import java.lang.reflect.Constructor;
import java.lang.reflect.Field;
import java.lang.reflect.Method;
import java.lang.reflect.Modifier;
import java.nio.file.Files;
import java.nio.file.Path;
import java.util.Arrays;
import java.util.HashMap;
import java.util.Map;
import java.util.Set;
import java.util.TreeSet;
import java.util.regex.Matcher;
import java.util.regex.Pattern;
import java.util.stream.Collectors;

/** The public face as the document tells it, and what LANGUAGE.md leaves out of the source. */
public final class FaceTest {
    private static final Path DOC = Path.of("../shared/DOC.md");
    private static final Path SOURCE = Path.of("src/main/java/TideSeats.java");
    private static final Due due = new Due();

    public static void main(String[] args) throws IOException {
        constants();
        publicMembersAreTheDocuments();
        hiddenMembersArePrivate();
        linesOfTheFace();
        headings();
        insideClasses();
        words();
        nothingIsMadeByCalls();
        due.end();
    }

    private static void constants() {
        due.is("UNKNOWN", TideSeats.UNKNOWN, -1);
        due.is("OUTSIDE", TideSeats.OUTSIDE, -2);
        due.is("STATE", TideSeats.STATE, -3);
        due.is("FULL", TideSeats.FULL, -4);
        due.is("NONE", TideSeats.NONE, -9);
        due.is("LOST", TideSeats.LOST, Long.MIN_VALUE);
    }

    private static void publicMembersAreTheDocuments() throws IOException {
        Set<String> told = new TreeSet<>();
        Matcher line = Pattern.compile("(?m)^    public (int|long) (\\w+)\\((.*)\\);$").matcher(Files.readString(DOC));
        while (line.find()) {
            String types = line.group(3).isEmpty() ? ""
                : Arrays.stream(line.group(3).split(", ")).map(p -> p.split(" ")[0]).collect(Collectors.joining(","));
            told.add(line.group(1) + " " + line.group(2) + "(" + types + ")");
        }
        due.is("methods of the document", told.size(), 38);
        Set<String> found = new TreeSet<>();
        for (Method method : TideSeats.class.getDeclaredMethods()) {
            if (Modifier.isPublic(method.getModifiers())) {
                found.add(method.getReturnType() + " " + method.getName() + "(" + Arrays.stream(method.getParameterTypes())
                    .map(Class::getName).collect(Collectors.joining(",")) + ")");
            }
        }
        due.is("methods as told: " + told + found, told.equals(found) ? 1 : 0, 1);
        due.is("final", Modifier.isFinal(TideSeats.class.getModifiers()) ? 1 : 0, 1);
        long constants = Arrays.stream(TideSeats.class.getDeclaredFields()).filter(f -> Modifier.isPublic(f.getModifiers())).count();
        due.is("public fields", constants, 6);
    }

    private static void hiddenMembersArePrivate() {
        Set<String> face = new TreeSet<>();
        for (Method method : TideSeats.class.getDeclaredMethods()) {
            int how = method.getModifiers();
            if (Modifier.isPublic(how)) {
                face.add(method.getName());
            } else {
                due.is(method + " is private", Modifier.isPrivate(how) ? 1 : 0, 1);
            }
        }
        for (Method method : TideSeats.class.getDeclaredMethods()) {
            if (!Modifier.isPublic(method.getModifiers())) {
                due.is(method + " has a name of its own", face.contains(method.getName()) ? 0 : 1, 1);
            }
        }
        for (Field field : TideSeats.class.getDeclaredFields()) {
            int how = field.getModifiers();
            due.is(field + " is public or private", Modifier.isPublic(how) || Modifier.isPrivate(how) ? 1 : 0, 1);
            due.is(field + " is final, if static", !Modifier.isStatic(how) || Modifier.isFinal(how) ? 1 : 0, 1);
        }
        due.is("constructors", TideSeats.class.getDeclaredConstructors().length, 1);
        for (Constructor<?> constructor : TideSeats.class.getDeclaredConstructors()) {
            due.is("public constructor", Modifier.isPublic(constructor.getModifiers()) ? 1 : 0, 1);
        }
    }

    /** Each line of the document's face stands in the source, in its order (a method's with a body). */
    private static void linesOfTheFace() throws IOException {
        String source = Files.readString(SOURCE);
        Matcher line = Pattern.compile("(?m)^(public final class TideSeats \\{|    public .*;)$").matcher(Files.readString(DOC));
        int lines = 0;
        int at = 0;
        while (line.find()) {
            lines++;
            String told = line.group().contains("(") ? line.group().replace(";", " {") : line.group();
            int place = source.indexOf("\n" + told + "\n");
            due.is("in its order: " + told, place >= at ? 1 : 0, 1);
            at = Math.max(at, place);
        }
        due.is("lines of the face", lines, 42);
    }

    /** Each call stands behind the heading of its part and ahead of the next one. */
    private static void headings() throws IOException {
        String[] lines = Files.readString(SOURCE).split("\n");
        Map<String, String> parts = new HashMap<>();
        String part = "";
        for (String line : lines) {
            part = line.startsWith("    // ---- ") ? line.substring(7) : part;
            Matcher call = Pattern.compile("    public (?:int|long) (\\w+)\\(.*").matcher(line);
            if (call.matches()) {
                parts.put(call.group(1), part);
            }
        }
        Matcher told = Pattern.compile("(?m)^Ahead of the calls (.*) the interface says: (---- .*)\\.$").matcher(Files.readString(DOC));
        int calls = 0;
        while (told.find()) {
            for (String call : told.group(1).replace("`", "").split(", ")) {
                calls++;
                due.is(call + " stands behind " + told.group(2), told.group(2).equals(parts.get(call)) ? 1 : 0, 1);
            }
        }
        due.is("calls that stand behind a heading", calls, 38);
    }

    private static void insideClasses() {
        Class<?>[] inside = TideSeats.class.getDeclaredClasses();
        due.is("some twelve classes at most", inside.length <= 12 ? 1 : 0, 1);
        for (Class<?> each : inside) {
            int how = each.getModifiers();
            due.is(each + " is static", Modifier.isStatic(how) ? 1 : 0, 1);
            due.is(each + " is hidden", Modifier.isPublic(how) || Modifier.isProtected(how) ? 0 : 1, 1);
            due.is(each + " has at most seven parameters a method", Arrays.stream(each.getDeclaredMethods())
                .filter(m -> m.getParameterCount() > 7).count(), 0);
        }
    }

    private static void words() throws IOException {
        String code = Files.readString(SOURCE).replaceAll("(?s)/\\*.*?\\*/|//[^\n]*", "");
        String[] left = {"\\bthrow", "\\btry\\b", "\\bcatch\\b", "\\bsynchronized\\b", "\\bassert\\b", "->", "::",
            "\\bimport\\b", "\\bpackage\\b", "\\bprotected\\b", "Exact\\b", "\\bvar\\b", "\\bObject\\b", "System\\.(?!arraycopy)"};
        for (String word : left) {
            due.is("source has " + word, Pattern.compile(word).matcher(code).find() ? 1 : 0, 0);
        }
    }

    /** All calls of one run live in one room: what an object needs is made with it. */
    private static void nothingIsMadeByCalls() throws IOException {
        boolean inConstructor = false;
        for (String line : Files.readString(SOURCE).replaceAll("(?s)/\\*.*?\\*/|//[^\n]*", "").split("\n")) {
            inConstructor = line.startsWith("    public TideSeats()") || inConstructor && !line.equals("    }");
            if (Pattern.compile("\\bnew\\b").matcher(line).find()) {
                boolean isOfAField = line.matches("        (private )?final .*;");
                due.is("made with the object: " + line, inConstructor || isOfAField ? 1 : 0, 1);
            }
        }
    }
}
