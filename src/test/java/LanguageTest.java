import java.io.IOException;
import java.lang.reflect.Constructor;
import java.lang.reflect.Field;
import java.lang.reflect.Method;
import java.lang.reflect.Modifier;
import java.nio.file.Files;
import java.nio.file.Path;
import java.util.ArrayList;
import java.util.Arrays;
import java.util.List;
import java.util.Set;
import java.util.TreeSet;
import java.util.regex.Matcher;
import java.util.regex.Pattern;

/** The public face, and those rules of LANGUAGE.md that can be seen without running a call. */
public final class LanguageTest {
    private static final String[] FACE = {
        "int letter(int)", "int blank()", "int fault()", "int kitchen()", "int egg(int,int)", "int spin(int,boolean)",
        "int stop(int,int)", "int crack(int,boolean)", "long likely(int,int)", "int likeliest()", "int turning(int,int)",
        "int worst(int,int)", "long mean(int,int)", "long risk(int,int)", "int trier(int)", "int about(int,int)",
        "int as(int,int)", "int fits(int)", "int mornings(int,int,int)", "int image()", "int restore()", "int count(int)",
        "long digest()"};
    private static final String[] CONSTANTS = {"NONE", "UNKNOWN", "OUTSIDE", "STATE", "FULL"};
    private static final String[] FORBIDDEN = {"import ", "package ", "->", "::", "try", "catch", "finally", "throw",
        "synchronized", "assert", "Exact(", "System.out", "System.nano", "System.current", "Math.random", "hashCode",
        "toString", "protected", "double ", "float ", "while (true)", "for (;;)", "static {"};
    private static final String[] HEADINGS = {"the kitchen", "what is told", "how likely", "triers", "told back",
        "what is told of all"};
    /** Each heading stands ahead of this call of the face. */
    private static final String[] HEADED = {"letter", "spin", "likely", "trier", "fits", "image"};
    /** Of what rule 4 leaves, what the class uses. */
    private static final Set<String> LIBRARY = Set.of("Integer.bitCount", "Math.abs", "Math.max", "Math.min",
        "System.arraycopy");
    private static final Pattern LIBRARY_CALL = Pattern.compile("\\b([A-Z]\\w*\\.[a-z]\\w*)\\(");
    private static final Pattern MADE = Pattern.compile("\\bnew (\\w+)");
    private static final int MOST_LINES = 60, MOST_FIELDS = 20, MOST_PARAMETERS = 7;
    private static int wrong = 0;

    private static void check(boolean holds, String what) {
        if (!holds) {
            wrong++;
            System.out.println("not so: " + what);
        }
    }

    private static String shown(Method method) {
        List<String> types = new ArrayList<>();
        for (Class<?> type : method.getParameterTypes()) types.add(type.getSimpleName());
        return method.getReturnType().getSimpleName() + " " + method.getName() + "(" + String.join(",", types) + ")";
    }

    private static void checkMethods() {
        Set<String> publics = new TreeSet<>();
        Set<String> names = new TreeSet<>();
        for (String method : FACE) names.add(method.substring(method.indexOf(' ') + 1, method.indexOf('(')));
        for (Method method : BoiledEggs.class.getDeclaredMethods()) {
            if (Modifier.isPublic(method.getModifiers())) {
                publics.add(shown(method));
            } else {
                check(Modifier.isPrivate(method.getModifiers()), method.getName() + " is private");
                check(!names.contains(method.getName()), "no private method is named " + method.getName());
            }
        }
        check(publics.equals(new TreeSet<>(Arrays.asList(FACE))), "the public methods are those of the face: " + publics);
    }

    private static void checkFields() {
        Set<String> publics = new TreeSet<>();
        for (Field field : BoiledEggs.class.getDeclaredFields()) {
            int modifiers = field.getModifiers();
            if (Modifier.isPublic(modifiers)) publics.add(field.getName());
            else check(Modifier.isPrivate(modifiers), field.getName() + " is private");
        }
        check(publics.equals(new TreeSet<>(Arrays.asList(CONSTANTS))), "the public constants are those of the face");
    }

    private static void checkClasses() {
        check(Modifier.isPublic(BoiledEggs.class.getModifiers()), "the class is public");
        check(Modifier.isFinal(BoiledEggs.class.getModifiers()), "the class is final");
        Constructor<?>[] constructors = BoiledEggs.class.getDeclaredConstructors();
        check(constructors.length == 1 && Modifier.isPublic(constructors[0].getModifiers())
            && constructors[0].getParameterCount() == 0, "one public constructor without parameters");
        Class<?>[] inside = BoiledEggs.class.getDeclaredClasses();
        check(inside.length <= 11, "at most twelve classes");
        for (Class<?> one : inside) {
            check(Modifier.isStatic(one.getModifiers()), one.getSimpleName() + " is static");
            check(!Modifier.isPublic(one.getModifiers()), one.getSimpleName() + " is not public");
            checkSizes(one);
        }
        checkSizes(BoiledEggs.class);
    }

    private static void checkSizes(Class<?> one) {
        int own = 0;
        for (Field field : one.getDeclaredFields()) {
            String name = one.getSimpleName() + "." + field.getName();
            if (!Modifier.isStatic(field.getModifiers())) own++;
            else check(Modifier.isFinal(field.getModifiers()), name + " is final");
        }
        check(own <= MOST_FIELDS, one.getSimpleName() + " has at most twenty fields");
        for (Method method : one.getDeclaredMethods()) {
            check(method.getParameterCount() <= MOST_PARAMETERS, method.getName() + " takes at most seven parameters");
        }
        check(one.getDeclaredClasses().length == 0 || one == BoiledEggs.class, one.getSimpleName() + " has none inside");
    }

    private static void checkText() throws IOException {
        int line = 0;
        for (String text : Files.readAllLines(Path.of("src/main/java/BoiledEggs.java"))) {
            line++;
            for (String word : FORBIDDEN) check(!text.contains(word), "line " + line + " is without " + word);
            check(text.chars().allMatch(c -> c >= 32 && c < 127), "line " + line + " has plain signs alone");
        }
    }

    private static void checkLibrary(String text) {
        Matcher call = LIBRARY_CALL.matcher(text);
        while (call.find()) check(LIBRARY.contains(call.group(1)), "the library has " + call.group(1));
        Set<String> mine = new TreeSet<>(Arrays.asList("int", "long"));
        for (Class<?> one : BoiledEggs.class.getDeclaredClasses()) mine.add(one.getSimpleName());
        Matcher made = MADE.matcher(text);
        while (made.find()) check(mine.contains(made.group(1)), "nothing is made but rows and own classes: " + made.group());
    }

    /** A method ends with the first line that closes at its own depth. */
    private static void checkLengths(List<String> lines) {
        Pattern head = Pattern.compile("( {4}| {8})(?! |if|for|while|switch|return|\\}).*\\) \\{");
        for (int first = 0; first < lines.size(); first++) {
            Matcher method = head.matcher(lines.get(first));
            if (!method.matches()) continue;
            int last = first;
            while (last < lines.size() && !lines.get(last).equals(method.group(1) + "}")) last++;
            check(last - first < MOST_LINES, "line " + (first + 1) + " begins a short method");
        }
    }

    private static void checkHeadings(String text) {
        int at = 0;
        for (int i = 0; i < HEADINGS.length; i++) {
            int heading = text.indexOf("// ---- " + HEADINGS[i] + "\n", at);
            check(heading >= 0, "behind the one ahead of it there is the heading " + HEADINGS[i]);
            int call = text.indexOf("public ", Math.max(heading, 0));
            check(call >= 0 && text.startsWith(HEADED[i] + "(", text.indexOf(' ', call + 7) + 1),
                HEADINGS[i] + " stands ahead of " + HEADED[i]);
            at = Math.max(call, at);
        }
        at = 0;
        for (String method : FACE) {
            int found = text.indexOf("public " + method.substring(0, method.indexOf('(') + 1), at);
            check(found >= 0, method + " stands behind those ahead of it in the document");
            at = Math.max(found, at);
        }
    }

    public static void main(String[] args) throws IOException {
        Watch.begin();
        checkMethods();
        checkFields();
        checkClasses();
        checkText();
        String text = Files.readString(Path.of("src/main/java/BoiledEggs.java"));
        checkLibrary(text);
        checkLengths(text.lines().toList());
        checkHeadings(text);
        System.out.println(wrong == 0 ? "the face and the rules are kept" : wrong + " rules are broken");
        if (wrong != 0) System.exit(1);
    }
}
