import java.io.IOException;
import java.lang.reflect.Constructor;
import java.lang.reflect.Field;
import java.lang.reflect.Method;
import java.lang.reflect.Modifier;
import java.nio.file.Files;
import java.nio.file.Path;
import java.util.ArrayList;
import java.util.Arrays;
import java.util.List;
import java.util.Set;
import java.util.TreeSet;

/** The public face, and those rules of LANGUAGE.md that can be seen without running a call. */
public final class LanguageTest {
    private static final String[] FACE = {
        "int letter(int)", "int blank()", "int fault()", "int kitchen()", "int egg(int,int)", "int spin(int,boolean)",
        "int stop(int,int)", "int crack(int,boolean)", "long likely(int,int)", "int likeliest()", "int turning(int,int)",
        "int worst(int,int)", "long mean(int,int)", "long risk(int,int)", "int trier(int)", "int about(int,int)",
        "int as(int,int)", "int fits(int)", "int mornings(int,int,int)", "int image()", "int restore()", "int count(int)",
        "long digest()"};
    private static final String[] CONSTANTS = {"NONE", "UNKNOWN", "OUTSIDE", "STATE", "FULL"};
    private static final String[] FORBIDDEN = {"import ", "package ", "->", "::", "try", "catch", "finally", "throw",
        "synchronized", "assert", "Exact(", "System.out", "System.nano", "System.current", "Math.random", "hashCode",
        "toString", "protected", "double ", "float ", "while (true)", "for (;;)", "static {"};
    private static int wrong = 0;

    private static void check(boolean holds, String what) {
        if (!holds) {
            wrong++;
            System.out.println("not so: " + what);
        }
    }

    private static String shown(Method method) {
        List<String> types = new ArrayList<>();
        for (Class<?> type : method.getParameterTypes()) types.add(type.getSimpleName());
        return method.getReturnType().getSimpleName() + " " + method.getName() + "(" + String.join(",", types) + ")";
    }

    private static void checkMethods() {
        Set<String> publics = new TreeSet<>();
        Set<String> names = new TreeSet<>();
        for (String method : FACE) names.add(method.substring(method.indexOf(' ') + 1, method.indexOf('(')));
        for (Method method : BoiledEggs.class.getDeclaredMethods()) {
            if (Modifier.isPublic(method.getModifiers())) {
                publics.add(shown(method));
            } else {
                check(Modifier.isPrivate(method.getModifiers()), method.getName() + " is private");
                check(!names.contains(method.getName()), "no private method is named " + method.getName());
            }
            check(method.getParameterCount() <= 7, method.getName() + " takes at most seven parameters");
        }
        check(publics.equals(new TreeSet<>(Arrays.asList(FACE))), "the public methods are those of the face: " + publics);
    }

    private static void checkFields() {
        Set<String> publics = new TreeSet<>();
        int own = 0;
        for (Field field : BoiledEggs.class.getDeclaredFields()) {
            int modifiers = field.getModifiers();
            if (Modifier.isPublic(modifiers)) publics.add(field.getName());
            else check(Modifier.isPrivate(modifiers), field.getName() + " is private");
            if (Modifier.isStatic(modifiers)) check(Modifier.isFinal(modifiers), field.getName() + " is final");
            else own++;
        }
        check(publics.equals(new TreeSet<>(Arrays.asList(CONSTANTS))), "the public constants are those of the face");
        check(own <= 20, "at most twenty fields");
    }

    private static void checkClasses() {
        check(Modifier.isPublic(BoiledEggs.class.getModifiers()), "the class is public");
        check(Modifier.isFinal(BoiledEggs.class.getModifiers()), "the class is final");
        Constructor<?>[] constructors = BoiledEggs.class.getDeclaredConstructors();
        check(constructors.length == 1 && Modifier.isPublic(constructors[0].getModifiers())
            && constructors[0].getParameterCount() == 0, "one public constructor without parameters");
        Class<?>[] inside = BoiledEggs.class.getDeclaredClasses();
        check(inside.length <= 11, "at most twelve classes");
        for (Class<?> one : inside) {
            check(Modifier.isStatic(one.getModifiers()), one.getSimpleName() + " is static");
            check(!Modifier.isPublic(one.getModifiers()), one.getSimpleName() + " is not public");
        }
    }

    private static void checkText() throws IOException {
        int line = 0;
        for (String text : Files.readAllLines(Path.of("src/main/java/BoiledEggs.java"))) {
            line++;
            for (String word : FORBIDDEN) check(!text.contains(word), "line " + line + " is without " + word);
            check(text.chars().allMatch(c -> c >= 32 && c < 127), "line " + line + " has plain signs alone");
        }
    }

    public static void main(String[] args) throws IOException {
        checkMethods();
        checkFields();
        checkClasses();
        checkText();
        System.out.println(wrong == 0 ? "the face and the rules are kept" : wrong + " rules are broken");
        if (wrong != 0) System.exit(1);
    }
}
