import java.io.IOException;
import java.nio.file.Files;
import java.nio.file.Path;
import java.util.NoSuchElementException;

/**
 * What the edge tests share. Each of their tests is about one sentence of the document, quoted in its own words,
 * and says nothing of an office after its 512th call.
 */
abstract class Edges {
    interface Call { Object answer(); }
    interface Test { void run(); }
    interface OnTape { Object answer(RunmergeOffice o, int tape); }

    static final Class<?> RANGE = IndexOutOfBoundsException.class;
    static final Class<?> ARGUMENT = IllegalArgumentException.class;
    static final Class<?> STATE = IllegalStateException.class;
    static final Class<?> ELEMENT = NoSuchElementException.class;
    static final int NONE = -1;
    static final int LOWEST = Integer.MIN_VALUE, HIGHEST = Integer.MAX_VALUE;

    private static final String DOCUMENT = readDocument();
    private static String sentence = "";
    private static int sentences = 0;
    private static int answers = 0;
    private static int wrong = 0;

    Edges() { }

    private static String readDocument() {
        try {
            return Files.readString(Path.of("../shared/DOC.md")).replaceAll("\\s+", " ");
        } catch (IOException e) {
            return null;
        }
    }

    private static void complain(String what) {
        wrong++;
        System.out.println("\"" + sentence + "\": " + what);
    }

    /** Runs the test of one sentence, whose words must stand in the document. */
    static void test(String words, Test test) {
        sentence = words;
        sentences++;
        int before = answers;
        if (DOCUMENT != null && !DOCUMENT.contains(words)) complain("the document does not say this");
        try {
            test.run();
        } catch (RuntimeException e) {
            complain("the test ends with " + e + " at " + e.getStackTrace()[0]);
        }
        if (answers == before) complain("nothing is tested");
    }

    private static Object outcome(Call call) {
        try {
            return call.answer();
        } catch (RuntimeException e) {
            return e.getClass();
        }
    }

    static void due(Object want, Call call) {
        answers++;
        Object got = outcome(call);
        if (!want.equals(got)) complain("line " + caller() + " answered " + got + ", due is " + want);
    }

    /** The call must throw this exception, and change nothing. */
    static void refused(Class<?> want, RunmergeOffice o, Call call) {
        answers++;
        String before = state(o);
        Object got = outcome(call);
        if (!want.equals(got)) complain("line " + caller() + " answered " + got + ", due is " + want);
        String after = state(o);
        if (!before.equals(after)) complain("line " + caller() + " changed " + before + " to " + after);
    }

    /** The call must throw an IndexOutOfBoundsException for each number that is no tape's, and change nothing. */
    static void refusesOtherTapes(RunmergeOffice o, OnTape call) {
        refused(RANGE, o, () -> call.answer(o, -1));
        refused(RANGE, o, () -> call.answer(o, 8));
        due(RANGE, () -> call.answer(o, LOWEST));
        due(RANGE, () -> call.answer(o, HIGHEST));
    }

    private static int caller() {
        for (StackTraceElement e : new Throwable().getStackTrace())
            if (!e.getClassName().startsWith("Edges")) return e.getLineNumber();
        return 0;
    }

    static void end() {
        System.out.println(wrong == 0 ? sentences + " sentences hold" : wrong + " answers are not as due");
        if (wrong != 0) System.exit(1);
    }

    // ---- offices ----

    /** An office with records of these keys on tape 0. */
    static RunmergeOffice with(int... keys) {
        RunmergeOffice o = new RunmergeOffice();
        put(o, 0, keys);
        return o;
    }

    static void put(RunmergeOffice o, int tape, int... keys) {
        for (int k : keys) o.put(tape, k, 0);
    }

    /** An office with so many runs of one record each on tape 0, as long as runs are NATURAL. */
    static RunmergeOffice singles(int many) {
        RunmergeOffice o = new RunmergeOffice();
        o.fill(0, 500, -1, Math.min(many, 50));
        if (many > 50) o.fill(0, 400, -1, many - 50);
        o.setRuns(RunmergeOffice.UP, RunmergeOffice.NATURAL, 1);
        return o;
    }

    /** An office with 100 records on tape 0, and 50 on each of the tapes 1 and 2. */
    static RunmergeOffice full() {
        RunmergeOffice o = new RunmergeOffice();
        o.fill(0, 0, 1, 50);
        o.fill(0, 50, 1, 50);
        o.fill(1, 0, 0, 50);
        o.fill(2, 0, 0, 50);
        return o;
    }

    static void write(RunmergeOffice o, String text) {
        o.clearText();
        for (int i = 0; i < text.length(); i += 8) {
            long bytes = 0;
            for (int j = i; j < Math.min(i + 8, text.length()); j++) bytes = bytes << 8 | text.charAt(j);
            o.type(bytes);
        }
    }

    // ---- what an office shows ----

    static String row(RunmergeOffice o, int tape) {
        StringBuilder s = new StringBuilder();
        for (int i = 0; i < o.length(tape); i++) s.append(i == 0 ? "" : " ").append(o.at(tape, i));
        return s.toString();
    }

    static String keysOf(RunmergeOffice o, int tape) {
        StringBuilder s = new StringBuilder();
        for (int i = 0; i < o.length(tape); i++) s.append(i == 0 ? "" : " ").append(o.key(o.at(tape, i)));
        return s.toString();
    }

    /** The keys of the runs that would be made of a tape, parted by |. */
    static String runsOf(RunmergeOffice o, int tape) {
        StringBuilder s = new StringBuilder();
        int runs = o.runs(tape);
        for (int r = 0; r < runs; r++) {
            s.append(r == 0 ? "" : "|");
            int many = o.runLength(tape, r);
            for (int i = 0; i < many; i++) s.append(i == 0 ? "" : " ").append(o.key(o.runAt(tape, r, i)));
        }
        return s.toString();
    }

    /** Passes, moves, merges and level. */
    static String planOf(RunmergeOffice o, int tape) {
        return o.plan(tape, 0) + " " + o.plan(tape, 1) + " " + o.plan(tape, 2) + " " + o.plan(tape, 3);
    }

    /** Tape, over or not, runs, passes, merges, moves, lost moves, and how often it was torn. */
    static String jobOf(RunmergeOffice o) {
        StringBuilder s = new StringBuilder();
        for (int i = 0; i < 8; i++) s.append(i == 0 ? "" : " ").append(o.job(i));
        return s.toString();
    }

    /** Order, way to make runs, memory, way to merge, and number of ways. */
    static String settingsOf(RunmergeOffice o) {
        return o.setting(0) + " " + o.setting(1) + " " + o.setting(2) + " " + o.setting(3) + " " + o.setting(4);
    }

    /** All that an office shows, in some twenty-five calls. */
    static String state(RunmergeOffice o) {
        StringBuilder s = new StringBuilder();
        s.append(o.records()).append(" records, tapes");
        for (int t = 0; t < 8; t++) s.append(' ').append(o.digest(t));
        s.append(", settings ").append(settingsOf(o)).append(", job ").append(outcome(() -> jobOf(o)));
        s.append(", text ").append(o.textLength()).append(' ').append(o.errorKind()).append(' ').append(o.errorPlace());
        return s.toString();
    }
}
