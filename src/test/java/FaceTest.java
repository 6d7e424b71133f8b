import java.lang.reflect.Constructor;
import java.lang.reflect.Field;
import java.lang.reflect.Method;
import java.lang.reflect.Modifier;
import java.nio.file.Files;
import java.nio.file.Path;
import java.util.ArrayList;
import java.util.HashSet;
import java.util.List;
import java.util.Set;
import java.util.TreeSet;
import java.util.regex.Matcher;
import java.util.regex.Pattern;

/** The face of the document and nothing else, and the rules of the language that can be looked up. */
public final class FaceTest {
    private static final String SOURCE = "src/main/java/BoomerangCourt.java";
    private static final Pattern FACE = Pattern.compile("    public (\\w+) (\\w+)\\(([^)]*)\\)(?: throws ([^;]*))?;");
    private static final String[] FORBIDDEN = {"\\btry\\b", "\\bcatch\\b", "\\bfinally\\b", "\\bsynchronized\\b",
        "\\bassert\\b", "->", "::", "Exact\\(", "ordinal\\(", "\\bequals\\(", "hashCode", "toString", "\\bpackage\\b",
        "static \\{", "\" \\+", "\\+ \"", "\\bSystem\\.(?!arraycopy)", "\\bvar\\b", "\\bFloat\\.", "\\bDouble\\."};

    public static void main(String[] args) throws Exception {
        Class<?> court = BoomerangCourt.class;
        Check.due("the class is public", true, () -> Modifier.isPublic(court.getModifiers()));
        Check.due("the class is final", true, () -> Modifier.isFinal(court.getModifiers()));
        Check.due("the methods", declared(), () -> publicMethods(court));
        members(court);
        constructors(court);
        insides(court);
        source(Files.readAllLines(Path.of(SOURCE)));
        Check.end();
    }

    /** The methods that the document lists, one text each. */
    private static Set<String> declared() throws Exception {
        Set<String> declared = new TreeSet<>();
        for (String line : Files.readAllLines(Path.of("../shared/DOC.md"))) {
            Matcher matcher = FACE.matcher(line);
            if (matcher.matches()) {
                String types = matcher.group(3).replaceAll("(\\w+) \\w+", "$1");
                String thrown = matcher.group(4) == null ? "" : matcher.group(4);
                declared.add(matcher.group(1) + " " + matcher.group(2) + "(" + types + ") " + thrown);
            }
        }
        Check.due("the document's methods", 56, () -> declared.size());
        return declared;
    }

    private static Set<String> publicMethods(Class<?> court) {
        Set<String> methods = new TreeSet<>();
        for (Method method : court.getDeclaredMethods()) {
            if (Modifier.isPublic(method.getModifiers())) {
                methods.add(method.getReturnType() + " " + method.getName()
                        + "(" + names(method.getParameterTypes()) + ") " + names(method.getExceptionTypes()));
            }
        }
        return methods;
    }

    private static String names(Class<?>[] types) {
        List<String> names = new ArrayList<>();
        for (Class<?> type : types) {
            names.add(type.getSimpleName());
        }
        return String.join(", ", names);
    }

    private static void members(Class<?> court) {
        Set<String> face = new HashSet<>();
        for (Method method : court.getDeclaredMethods()) {
            if (Modifier.isPublic(method.getModifiers())) {
                Check.due(method.getName() + " once", true, () -> face.add(method.getName()));
            }
        }
        for (Method method : court.getDeclaredMethods()) {
            int modifiers = method.getModifiers();
            if (!Modifier.isPublic(modifiers) && !method.isSynthetic()) {
                Check.due(method.getName() + " is private", true, () -> Modifier.isPrivate(modifiers));
                Check.due(method.getName() + " is no name of the face", false, () -> face.contains(method.getName()));
            }
        }
        for (Field field : court.getDeclaredFields()) {
            int modifiers = field.getModifiers();
            boolean isFinal = !Modifier.isStatic(modifiers) || Modifier.isFinal(modifiers);
            Check.due(field.getName() + " is private", true, () -> Modifier.isPrivate(modifiers));
            Check.due(field.getName() + " is final if static", true, () -> isFinal);
        }
    }

    private static void constructors(Class<?> court) {
        Constructor<?>[] constructors = court.getDeclaredConstructors();
        Check.due("one constructor", 1, () -> constructors.length);
        Check.due("1 without parameters", 0, () -> constructors[0].getParameterCount());
        Check.due("1 public", true, () -> Modifier.isPublic(constructors[0].getModifiers()));
    }

    private static void insides(Class<?> court) {
        for (Class<?> inside : court.getDeclaredClasses()) {
            Check.due(inside + " is private", true, () -> Modifier.isPrivate(inside.getModifiers()));
            Check.due(inside + " is static", true, () -> Modifier.isStatic(inside.getModifiers()));
        }
        Check.due("at most twelve classes", true, () -> court.getDeclaredClasses().length < 12);
    }

    private static void source(List<String> lines) {
        for (int i = 0; i < lines.size(); i++) {
            String line = lines.get(i);
            String where = "line " + (i + 1);
            if (line.startsWith("import ")) {
                boolean isListed = line.equals("import java.util.Arrays;")
                        || line.equals("import java.util.NoSuchElementException;");
                Check.due(where + ": import", true, () -> isListed);
            }
            Check.due(where + ": signs 1 to 127", true, () -> line.chars().allMatch(sign -> sign < 128));
            boolean isComment = line.trim().startsWith("/") || line.trim().startsWith("*");
            for (String forbidden : FORBIDDEN) {
                boolean isFound = !isComment && Pattern.compile(forbidden).matcher(line).find();
                Check.due(where + ": no " + forbidden, false, () -> isFound);
            }
        }
        methodLengths(lines);
    }

    /** A method begins at four or eight spaces with a parenthesis, and ends at the brace below it. */
    private static void methodLengths(List<String> lines) {
        int[] begun = {-1, -1};
        for (int i = 0; i < lines.size(); i++) {
            String line = lines.get(i);
            int depth = line.startsWith("        ") ? 1 : 0;
            if (line.matches("(    ){1,2}\\w.*\\b(class|enum) .*")) {
                begun[depth] = -1;
            } else if (line.matches("(    ){1,2}\\w[^=;]*\\(.*")) {
                begun[depth] = i;
            } else if (line.matches("(    ){1,2}\\}") && begun[depth] >= 0) {
                int length = i - begun[depth] + 1;
                Check.due("line " + (i + 1) + ": sixty lines at most", true, () -> length <= 60);
                begun[depth] = -1;
            }
        }
    }
}
