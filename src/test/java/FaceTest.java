import java.io.IOException;
import java.lang.reflect.Constructor;
import java.lang.reflect.Field;
import java.lang.reflect.Method;
import java.lang.reflect.Modifier;
import java.nio.file.Files;
import java.nio.file.Path;
import java.util.Arrays;
import java.util.TreeSet;
import java.util.regex.Matcher;
import java.util.regex.Pattern;

/** The face is the document's and no more, and the source keeps to what can be seen of the language's rules. */
public final class FaceTest {
    private static final String[] METHODS = {
        "int put(int,int,int)", "int fill(int,int,int,int)", "int scatter(int,int,int,int)", "int records()", "int key(int)",
        "int mark(int)", "int length(int)", "int at(int,int)", "int digest(int)", "boolean isSorted(int,int)", "int clear(int)",
        "int copy(int,int)", "int turn(int)", "int setRuns(int,int,int)", "int setMerge(int,int)", "int setting(int)",
        "int runs(int)", "int runLength(int,int)", "int runAt(int,int,int)", "int plan(int,int)", "int leastMoves(int)",
        "int begin(int,int)", "int work(int)", "int tear()", "int job(int)", "int sort(int,int)", "int combine(int,int,int,int)",
        "int thin(int,boolean)", "int find(int,int)", "int floor(int,int)", "int ceiling(int,int)", "int between(int,int,int)",
        "int keys(int)", "int type(long)", "int clearText()", "int textLength()", "int example(int)", "int errorKind()",
        "int errorPlace()", "int run()", "int errors(int)", "double meanKey(int)", "float sortedShare()"};
    private static final String[] CONSTANTS = {
        "NONE=-1", "UP=0", "DOWN=1", "FULL=0", "REPLACEMENT=1", "NATURAL=2", "BALANCED=0", "SHORTEST=1", "POLYPHASE=2",
        "UNITE=0", "COMMON=1", "WITHOUT=2"};
    private static final String[] FORBIDDEN = {
        "\\bcatch\\b", "\\bfinally\\b", "\\bsynchronized\\b", "\\bassert\\b", "->", "::", "\\bString\\.", "\\bSystem\\.(?!arraycopy)",
        "\\bThread\\b", "\\bimport (?!java\\.util\\.NoSuchElementException;)", "\\bstatic \\{", "@", "Exact\\(", "\\bpackage\\b",
        "\" \\+", "\\+ \"", "\\brecord [A-Z]", "\\blist\\b.*=.*\\bnew\\b"};
    private static int wrong = 0;

    private static void demand(boolean holds, String what) {
        if (!holds) {
            wrong++;
            System.out.println("wrong: " + what);
        }
    }

    private static void checkFace() throws IllegalAccessException {
        TreeSet<String> methods = new TreeSet<>();
        TreeSet<String> names = new TreeSet<>();
        for (Method m : RunmergeOffice.class.getDeclaredMethods()) {
            if (Modifier.isPrivate(m.getModifiers()) || m.isSynthetic()) continue;
            StringBuilder s = new StringBuilder(m.getReturnType() + " " + m.getName() + "(");
            for (Class<?> p : m.getParameterTypes()) s.append(s.charAt(s.length() - 1) == '(' ? "" : ",").append(p);
            methods.add(s.append(")").toString());
            names.add(m.getName());
            demand(m.getModifiers() == Modifier.PUBLIC, "modifiers of " + m);
        }
        demand(methods.equals(new TreeSet<>(Arrays.asList(METHODS))), "methods " + methods);
        TreeSet<String> constants = new TreeSet<>();
        for (Field f : RunmergeOffice.class.getDeclaredFields())
            if (!Modifier.isPrivate(f.getModifiers())) constants.add(f.getName() + "=" + f.getInt(null));
        demand(constants.equals(new TreeSet<>(Arrays.asList(CONSTANTS))), "constants " + constants);
        Constructor<?>[] made = RunmergeOffice.class.getDeclaredConstructors();
        demand(made.length == 1 && made[0].getParameterCount() == 0 && Modifier.isPublic(made[0].getModifiers()), "constructor");
        demand(Modifier.isFinal(RunmergeOffice.class.getModifiers()), "the class is final");
        demand(RunmergeOffice.class.getDeclaredClasses().length <= 11, "at most twelve classes");
        for (Class<?> c : RunmergeOffice.class.getDeclaredClasses()) checkInside(c, names);
    }

    private static void checkInside(Class<?> c, TreeSet<String> names) {
        demand(Modifier.isStatic(c.getModifiers()), c + " is static");
        int fields = 0;
        for (Field f : c.getDeclaredFields()) fields += Modifier.isStatic(f.getModifiers()) ? 0 : 1;
        demand(fields <= 20, c + " has at most twenty fields");
        for (Method m : c.getDeclaredMethods()) {
            demand(!names.contains(m.getName()), m + " bears another name than those of the face");
            demand(m.getParameterCount() <= 7, m + " takes at most seven parameters");
        }
    }

    private static void checkSource(String path) throws IOException {
        int number = 0;
        int methodStart = 0;
        for (String whole : Files.readAllLines(Path.of(path))) {
            number++;
            String line = whole.replaceAll("//.*", "").replaceAll("^\\s*(/?\\*).*", "").replaceAll("\"[^\"]*\"", "\"\"");
            for (String f : FORBIDDEN) {
                Matcher m = Pattern.compile(f).matcher(line);
                demand(!m.find(), path + ":" + number + " has " + f);
            }
            if (line.matches("(    |        )(\\w.*)?\\w+\\(.*[{,)]") || line.matches("    public .*\\(.*")) methodStart = number;
            if (line.matches("(    |        )\\}")) demand(number - methodStart < 60, path + ":" + number + " ends a long method");
        }
    }

    public static void main(String[] args) throws Exception {
        checkFace();
        checkSource("src/main/java/RunmergeOffice.java");
        System.out.println(wrong == 0 ? "the face and the source are as they must be" : wrong + " rules are broken");
        if (wrong != 0) System.exit(1);
    }
}
