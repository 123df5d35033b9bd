import java.io.IOException;
import java.lang.reflect.Field;
import java.lang.reflect.Method;
import java.lang.reflect.Modifier;
import java.nio.file.Files;
import java.nio.file.Path;
import java.util.ArrayList;
import java.util.Arrays;
import java.util.HashSet;
import java.util.List;
import java.util.Set;
import java.util.TreeSet;
import java.util.regex.Matcher;
import java.util.regex.Pattern;

/** The face of the class, and what LANGUAGE.md rules out, as far as it can be seen from outside. Runs at the project's root. */
public final class LanguageTests {
    private static final Check C = new Check("LanguageTests");
    private static final Set<String> FACE = Set.of(
        "int write(int)", "int wipe()", "int fault()", "int office()", "int about(int)", "int letter(int,int)",
        "int cell(int,int)", "int press(int)", "int day()", "int rub(int)", "int change()", "int undo()",
        "int later(int)", "int lasts(int)", "int shows(int)", "int fits(int)", "int keeps(int)", "int twice(int)",
        "int crossed(int)", "int least(int)", "int share(int,boolean)", "int tell(int,int)", "int untell()",
        "int orders(int)", "int rests(int,int)", "int chance(int,int,boolean)", "long seed(long)", "int years(int)",
        "int keep(int)", "int again(int)");
    private static final Set<String> CONSTANTS = Set.of("UNKNOWN", "BAD", "LATE", "FULL", "NONE");
    private static final String[] RULED_OUT = {"\\bimport\\b", "\\bpackage\\b", "\\bthrow\\b", "\\btry\\b", "\\bcatch\\b",
        "\\bsynchronized\\b", "\\bassert\\b", "->", "::", "\\bprotected\\b", "\\bstatic\\s*\\{", "\\bSystem\\.(?!arraycopy)",
        "Exact\\b", "\\brandom\\b", "\\bThread\\b", "\\bvolatile\\b", "\\bnative\\b"};

    public static void main(String[] args) throws IOException {
        face();
        classesInside();
        source();
        C.end();
    }

    private static String signature(Method m) {
        List<String> types = new ArrayList<>();
        for (Class<?> type : m.getParameterTypes()) {
            types.add(type.getName());
        }
        return m.getReturnType().getName() + " " + m.getName() + "(" + String.join(",", types) + ")";
    }

    private static void face() {
        Set<String> open = new TreeSet<>();
        Set<String> names = new HashSet<>();
        for (Method m : BlottedFirst.class.getDeclaredMethods()) {
            if (!Modifier.isPrivate(m.getModifiers())) {
                open.add(signature(m));
                names.add(m.getName());
                C.holds(m + " is public and the object's", m.getModifiers() == Modifier.PUBLIC);
            }
        }
        C.holds("the methods are the face's: " + open, open.equals(FACE));
        for (Field f : BlottedFirst.class.getDeclaredFields()) {
            boolean told = CONSTANTS.contains(f.getName());
            int due = Modifier.PUBLIC | Modifier.STATIC | Modifier.FINAL;
            C.holds(f + " is a constant of the face or private", told ? f.getModifiers() == due : Modifier.isPrivate(f.getModifiers()));
            C.holds(f + " is final, if static", !Modifier.isStatic(f.getModifiers()) || Modifier.isFinal(f.getModifiers()));
        }
        C.due("constructors", BlottedFirst.class.getDeclaredConstructors().length, 1);
        C.due("public constructors", BlottedFirst.class.getConstructors().length, 1);
        C.due("constructor's parameters", BlottedFirst.class.getDeclaredConstructors()[0].getParameterCount(), 0);
        noNameTwice(BlottedFirst.class, names);
        for (Class<?> inside : BlottedFirst.class.getDeclaredClasses()) {
            noNameTwice(inside, names);
        }
    }

    private static void noNameTwice(Class<?> in, Set<String> names) {
        for (Method m : in.getDeclaredMethods()) {
            C.holds(m + " bears no public name", Modifier.isPublic(m.getModifiers()) || !names.contains(m.getName()));
            C.holds(m + " takes seven at most", m.getParameterCount() <= 7);
        }
        long fields = Arrays.stream(in.getDeclaredFields()).filter(f -> !Modifier.isStatic(f.getModifiers())).count();
        C.holds(in + " has twenty fields at most", fields <= 20);
    }

    private static void classesInside() {
        Class<?>[] inside = BlottedFirst.class.getDeclaredClasses();
        C.holds("twelve classes at most", inside.length < 12);
        for (Class<?> one : inside) {
            C.holds(one + " is static", Modifier.isStatic(one.getModifiers()));
            C.holds(one + " is private or package-visible", !Modifier.isPublic(one.getModifiers()));
        }
    }

    private static void source() throws IOException {
        String code = Files.readString(Path.of("src/main/java/BlottedFirst.java"));
        String bare = code.replaceAll("(?s)/\\*.*?\\*/", "").replaceAll("//[^\n]*", "");
        for (String pattern : RULED_OUT) {
            Matcher m = Pattern.compile(pattern).matcher(bare);
            C.holds("no " + pattern, !m.find());
        }
        for (char c : code.toCharArray()) {
            if (c > 126) {
                C.holds("plain signs alone", false);
            }
        }
        for (String line : bare.split("\n")) {
            if (line.contains("new ")) {
                C.holds("made when the object is made: " + line, line.matches(".*= new (int|Sheet)\\[[A-Z_]+\\];|.*= new [A-Z][a-z]+\\(\\);"));
            }
        }
    }
}
