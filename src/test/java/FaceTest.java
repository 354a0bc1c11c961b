import java.io.IOException;
import java.lang.reflect.Constructor;
import java.lang.reflect.Field;
import java.lang.reflect.Method;
import java.lang.reflect.Modifier;
import java.nio.file.Files;
import java.nio.file.Path;
import java.util.Set;
import java.util.TreeSet;
import java.util.regex.Matcher;
import java.util.regex.Pattern;

/** The public face, and those rules of LANGUAGE.md that can be seen from the class and its text. */
public final class FaceTest {
    private static final Due due = new Due();
    private static final Set<String> METHODS = Set.of("write(I)", "wipe()", "fault()", "lay()", "density(II)",
        "want(II)", "load(II)", "move(III)", "down(II)", "round(I)", "undo()", "joint(II)", "exact(III)",
        "bears(II)", "strand(II)", "slack()", "miss()", "settle(I)", "better(I)", "greatest(I)", "rolls(I)",
        "rollOf(I)", "count(I)");

    public static void main(String[] args) throws IOException {
        constants();
        members();
        nestedClasses();
        words(Files.readString(Path.of(args.length > 0 ? args[0] : "src/main/java/RoofNet.java")));
        due.end();
    }

    private static void constants() {
        due.is("BAD", RoofNet.BAD, -1);
        due.is("NO", RoofNet.NO, -2);
        due.is("FULL", RoofNet.FULL, -3);
        due.is("NONE", RoofNet.NONE, -4);
    }

    private static void members() {
        due.is("public and final", RoofNet.class.getModifiers(), Modifier.PUBLIC | Modifier.FINAL);
        Set<String> found = new TreeSet<>();
        Set<String> publicNames = new TreeSet<>();
        for (Method method : RoofNet.class.getDeclaredMethods()) {
            if (!Modifier.isPrivate(method.getModifiers())) {
                found.add(method.getName() + "(" + "I".repeat(method.getParameterCount()) + ")");
                publicNames.add(method.getName());
                due.is(method + " is public", method.getModifiers(), Modifier.PUBLIC);
                due.is(method + " answers int", method.getReturnType() == int.class ? 1 : 0, 1);
            }
        }
        due.is("the methods are the document's: " + found, found.equals(new TreeSet<>(METHODS)) ? 1 : 0, 1);
        for (Class<?> any : allClasses()) {
            for (Method method : any.getDeclaredMethods()) {
                boolean hides = publicNames.contains(method.getName())
                    && (any != RoofNet.class || Modifier.isPrivate(method.getModifiers()));
                due.is(method + " bears the name of a public one", hides ? 1 : 0, 0);
            }
        }
        for (Field field : RoofNet.class.getDeclaredFields()) {
            boolean told = Set.of("BAD", "NO", "FULL", "NONE").contains(field.getName());
            due.is(field + " is seen", Modifier.isPrivate(field.getModifiers()) ? 0 : 1, told ? 1 : 0);
        }
        Constructor<?>[] constructors = RoofNet.class.getDeclaredConstructors();
        due.is("constructors", constructors.length, 1);
        due.is("without parameters", constructors[0].getParameterCount(), 0);
    }

    private static Set<Class<?>> allClasses() {
        Set<Class<?>> all = new java.util.HashSet<>(Set.of(RoofNet.class.getDeclaredClasses()));
        all.add(RoofNet.class);
        return all;
    }

    private static void nestedClasses() {
        due.is("no more than twelve classes", allClasses().size() <= 12 ? 1 : 0, 1);
        for (Class<?> any : allClasses()) {
            int fields = 0;
            for (Field field : any.getDeclaredFields()) {
                boolean constant = Modifier.isStatic(field.getModifiers());
                fields += constant ? 0 : 1;
                due.is(field + " is static and not final",
                    constant && !Modifier.isFinal(field.getModifiers()) ? 1 : 0, 0);
            }
            due.is(any + " has some twenty fields", fields <= 20 ? 1 : 0, 1);
            for (Method method : any.getDeclaredMethods()) {
                due.is(method + " takes at most seven", method.getParameterCount() <= 7 ? 1 : 0, 1);
            }
            if (any != RoofNet.class) {
                due.is(any + " is static", Modifier.isStatic(any.getModifiers()) ? 1 : 0, 1);
            }
        }
    }

    private static void words(String source) {
        String code = source.replaceAll("(?s)/\\*.*?\\*/", "").replaceAll("//[^\n]*", "");
        String refused = "\\b(throw|throws|try|catch|finally|synchronized|assert|import|package|volatile|native)\\b"
            + "|->|::|\\b\\w+Exact\\b|\\bMath\\.(sqrt|pow|floor|ceil|round|random)\\b|\\bsystem\\.(nano|current)";
        Matcher matcher = Pattern.compile(refused).matcher(code);
        while (matcher.find()) {
            due.is("refused in the program: " + matcher.group(), 1, 0);
        }
        String signs = source.replaceAll("[\\x20-\\x7e\\n]", "");
        due.is("signs beyond ASCII", signs.length(), 0);
        library(code);
        methodsStayShort(code);
    }

    /** Rule 4: of the library only what stands there, and of that what the program uses. */
    private static void library(String code) {
        Set<String> used = Set.of("Math.min", "Math.max", "Math.abs", "Math.floorDiv", "Integer.bitCount",
            "Integer.compare", "System.arraycopy");
        Matcher matcher = Pattern.compile("\\b(?!RoofNet\\b)[A-Z]\\w*[a-z]\\w*\\.\\w+").matcher(code);
        while (matcher.find()) {
            due.is("of the library: " + matcher.group(), used.contains(matcher.group()) ? 1 : 0, 1);
        }
    }

    /** Rule 11: "Methods stay short (some sixty lines)". A method ends with a brace as far in as its first line. */
    private static void methodsStayShort(String code) {
        Pattern first = Pattern.compile("( {4}(?: {4})?)(?!(?:if|for|while|switch) )\\w.*\\) \\{");
        String[] lines = code.split("\n");
        int methods = 0;
        for (int i = 0; i < lines.length; i++) {
            Matcher matcher = first.matcher(lines[i]);
            if (matcher.matches()) {
                methods++;
                int end = i;
                while (end < lines.length && !lines[end].equals(matcher.group(1) + "}")) {
                    end++;
                }
                due.is(lines[i].trim() + " stays short", end - i < 60 ? 1 : 0, 1);
            }
        }
        due.is("methods are found", methods >= METHODS.size() ? 1 : 0, 1);
    }
}
