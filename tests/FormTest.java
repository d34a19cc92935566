import java.lang.reflect.Constructor;
import java.lang.reflect.Field;
import java.lang.reflect.Member;
import java.lang.reflect.Method;
import java.lang.reflect.Modifier;
import java.nio.file.Files;
import java.nio.file.Path;
import java.util.Arrays;
import java.util.Set;
import java.util.TreeSet;

/** The face is the document's and nothing else, and the source keeps to what LANGUAGE.md lets stand. */
public final class FormTest {
    private static final Path SOURCE = Path.of("src/main/java/CaneQuotas.java");
    private static final String[] METHODS = {"int set(int,int)", "int quota(int,int)", "int lend(int,int,int)",
        "int field(int,int,int,int)", "int stop(int,int)", "int dropStop(int)", "int pass(int)", "int ofField(int,int)",
        "int ofGrower(int,int)", "int load(int,int)", "int count(int)", "long fields(int)", "int next()",
        "int then(int,int)", "int leastTrucks(int)", "int stopCosts(int,int)", "int put(long)", "int wipe()",
        "int fault()", "int carryOut()", "int undo()", "int save(int)", "int restore(int)"};
    private static final String[] CONSTANTS = {"NO_SUCH=-1", "BAD_VALUE=-2", "BAD_TEXT=-3", "TOO_MANY=-4",
        "NOT_POSSIBLE=-5", "NONE=-6", "TRUCKS=0", "LOAD=1", "MILL=2", "YARD=3", "LOSS=4", "OLD=5", "PRICE=6"};
    private static final String[] NOT_IN_IT = {"\\bimport\\b", "\\bpackage\\b", "\\bthrow\\b", "\\bthrows\\b",
        "\\btry\\b", "\\bcatch\\b", "\\bsynchronized\\b", "\\bassert\\b", "\\bnative\\b", "->", "::", "\\bvar\\b",
        "\\bdouble\\b", "\\bfloat\\b", "\\.equals\\b", "\\bhashCode\\b", "\\btoString\\b", "Exact\\b", "\\bprotected\\b",
        "\\bRandom\\b", "currentTimeMillis", "nanoTime", "\\bThread\\b", "\\binstanceof\\b", "\\[\\]\\[\\]"};
    private static final int MOST_LINES_OF_A_METHOD = 60;
    private static final int MOST_FIELDS_OF_A_CLASS = 20;
    private static final int MOST_CLASSES = 12;

    public static void main(String[] args) throws Exception {
        face();
        for (Class<?> inside : CaneQuotas.class.getDeclaredClasses()) classInside(inside);
        Due.holds("at most 12 classes", CaneQuotas.class.getDeclaredClasses().length < MOST_CLASSES);
        words(Files.readString(SOURCE));
        methodLengths(Files.readString(SOURCE).split("\n"));
        Due.end("FormTest");
    }

    private static void face() throws Exception {
        Class<?> c = CaneQuotas.class;
        Due.holds("public final", Modifier.isPublic(c.getModifiers()) && Modifier.isFinal(c.getModifiers()));
        Due.holds("no package", c.getPackageName().isEmpty());
        Set<String> constants = new TreeSet<>();
        for (Field f : c.getDeclaredFields()) {
            publicOrPrivate(f);
            if (!Modifier.isPublic(f.getModifiers())) continue;
            Due.holds(f.getName() + " is a constant", f.getType() == int.class && constant(f));
            constants.add(f.getName() + "=" + f.getInt(null));
        }
        Due.holds("the constants", constants.equals(new TreeSet<>(Arrays.asList(CONSTANTS))));
        Set<String> methods = new TreeSet<>();
        Set<String> hidden = new TreeSet<>();
        for (Method m : c.getDeclaredMethods()) {
            if (m.isSynthetic()) continue;
            publicOrPrivate(m);
            if (Modifier.isPublic(m.getModifiers())) methods.add(told(m));
            else hidden.add(m.getName());
        }
        Due.holds("the methods", methods.equals(new TreeSet<>(Arrays.asList(METHODS))));
        for (Method m : c.getMethods()) Due.holds("no private " + m.getName(), !hidden.contains(m.getName()));
        Constructor<?>[] constructors = c.getDeclaredConstructors();
        Due.is("constructors", constructors.length, 1);
        Due.holds("a public one", Modifier.isPublic(constructors[0].getModifiers()));
        Due.is("without arguments", constructors[0].getParameterCount(), 0);
    }

    private static boolean constant(Field f) {
        return Modifier.isStatic(f.getModifiers()) && Modifier.isFinal(f.getModifiers());
    }

    private static void publicOrPrivate(Member m) {
        int modifiers = m.getModifiers();
        Due.holds(m.getName() + " is public or private", Modifier.isPublic(modifiers) || Modifier.isPrivate(modifiers));
    }

    private static String told(Method m) {
        StringBuilder arguments = new StringBuilder();
        for (Class<?> type : m.getParameterTypes()) arguments.append(arguments.length() == 0 ? "" : ",").append(type);
        return m.getReturnType() + " " + m.getName() + "(" + arguments + ")";
    }

    private static void classInside(Class<?> c) {
        int modifiers = c.getModifiers();
        Due.holds(c + " is static", Modifier.isStatic(modifiers));
        Due.holds(c + " is private or of the package", !Modifier.isPublic(modifiers) && !Modifier.isProtected(modifiers));
        int fields = 0;
        for (Field f : c.getDeclaredFields()) {
            if (Modifier.isStatic(f.getModifiers())) Due.holds(f + " is final", constant(f));
            else fields++;
        }
        Due.holds(c + " has few fields", fields <= MOST_FIELDS_OF_A_CLASS);
        for (Method m : c.getDeclaredMethods()) {
            Due.holds(m + " has few parameters", m.getParameterCount() <= 7);
            for (String face : METHODS) Due.holds(m + " has its own name", !face.contains(" " + m.getName() + "("));
        }
    }

    private static void words(String source) {
        String code = source.replaceAll("(?s)/\\*.*?\\*/", "").replaceAll("//[^\n]*", "").replaceAll("\"[^\"\n]*\"", "\"\"");
        for (String word : NOT_IN_IT) {
            Due.holds("without " + word, !java.util.regex.Pattern.compile(word).matcher(code).find());
        }
        for (int i = 0; i < source.length(); i++) {
            char c = source.charAt(i);
            if (c < 127 && (c >= 32 || c == '\n')) continue;
            Due.holds("sign " + (int) c + " at " + i, false);
        }
    }

    /** A method is told by its indent: 4 in the class, 8 in the classes inside. */
    private static void methodLengths(String[] lines) {
        int start = 0;
        String end = "";
        for (int i = 0; i < lines.length; i++) {
            if (end.isEmpty() && lines[i].matches("( {4}| {8})[a-z].*\\) \\{")) {
                start = i;
                end = lines[i].replaceAll("^( *).*", "$1}");
            } else if (lines[i].equals(end)) {
                Due.holds("short: " + lines[start], i - start < MOST_LINES_OF_A_METHOD);
                end = "";
            }
        }
    }
}
