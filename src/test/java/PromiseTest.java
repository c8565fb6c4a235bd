import java.util.NoSuchElementException;

/** Each promise of the document by hand: ordinary calls, the edges that the document names, and wrong calls. */
public final class PromiseTest {
    interface Call { Object answer(); }

    private static final Class<?> RANGE = IndexOutOfBoundsException.class;
    private static final Class<?> ARGUMENT = IllegalArgumentException.class;
    private static final Class<?> STATE = IllegalStateException.class;
    private static final Class<?> ELEMENT = NoSuchElementException.class;
    private static int wrong = 0;
    private static int promise = 0;

    private static void due(Object want, Call call) {
        Object got;
        try {
            got = call.answer();
        } catch (RuntimeException e) {
            got = e.getClass();
        }
        if (!want.equals(got)) {
            wrong++;
            System.out.println("promise " + promise + ", " + new Throwable().getStackTrace()[1] + ": " + got + ", due is " + want);
        }
    }

    private static RunmergeOffice with(int... keys) {
        RunmergeOffice o = new RunmergeOffice();
        for (int k : keys) o.put(0, k, 0);
        return o;
    }

    private static void write(RunmergeOffice o, String text) {
        o.clearText();
        for (int i = 0; i < text.length(); i++) o.type(text.charAt(i));
    }

    private static String row(RunmergeOffice o, int tape) {
        StringBuilder s = new StringBuilder();
        for (int i = 0; i < o.length(tape); i++) s.append(i == 0 ? "" : " ").append(o.at(tape, i));
        return s.toString();
    }

    private static String keysOf(RunmergeOffice o, int tape) {
        StringBuilder s = new StringBuilder();
        for (int i = 0; i < o.length(tape); i++) s.append(i == 0 ? "" : " ").append(o.key(o.at(tape, i)));
        return s.toString();
    }

    private static String runsOf(RunmergeOffice o, int tape) {
        StringBuilder s = new StringBuilder();
        for (int r = 0; r < o.runs(tape); r++) {
            s.append(r == 0 ? "" : "|");
            for (int i = 0; i < o.runLength(tape, r); i++) s.append(i == 0 ? "" : " ").append(o.key(o.runAt(tape, r, i)));
        }
        return s.toString();
    }

    private static String jobOf(RunmergeOffice o) {
        StringBuilder s = new StringBuilder();
        for (int i = 0; i < 8; i++) s.append(i == 0 ? "" : " ").append(o.job(i));
        return s.toString();
    }

    private static String plansOf(RunmergeOffice o, int tape) {
        return o.plan(tape, 0) + " " + o.plan(tape, 1) + " " + o.plan(tape, 2) + " " + o.plan(tape, 3);
    }

    private static void newObject() {
        promise = 1;
        RunmergeOffice o = new RunmergeOffice();
        due(0, o::records);
        for (int i = 0; i < 8; i++) {
            int t = i;
            due(0, () -> o.length(t));
        }
        due(STATE, () -> o.job(0));
        due(0, o::textLength);
        due(0, () -> o.setting(0));
        due(1, () -> o.setting(1));
        due(4, () -> o.setting(2));
        due(0, () -> o.setting(3));
        due(2, () -> o.setting(4));
    }

    private static void putting() {
        promise = 2;
        RunmergeOffice o = new RunmergeOffice();
        due(0, () -> o.put(0, -999, 0));
        due(1, () -> o.put(7, 999, 9999));
        due(RANGE, () -> o.put(-1, 0, 0));
        due(RANGE, () -> o.put(8, 1000, -1));
        due(ARGUMENT, () -> o.put(0, -1000, 0));
        due(ARGUMENT, () -> o.put(0, 1000, 0));
        due(ARGUMENT, () -> o.put(0, 0, -1));
        due(ARGUMENT, () -> o.put(0, 0, 10000));
        due(2, o::records);
        o.fill(1, 0, 1, 50);
        o.fill(1, 0, 1, 50);
        due(STATE, () -> o.put(1, 0, 0));
        due(ARGUMENT, () -> o.put(1, 1000, 0));
        due(102, () -> o.put(2, 0, 0));
        o.fill(2, 0, 1, 50);
        o.fill(3, 0, 1, 46);
        due(199, () -> o.put(4, 0, 0));
        due(STATE, () -> o.put(5, 0, 0));
        due(0, () -> o.length(5));
        due(200, o::records);
    }

    private static void filling() {
        promise = 3;
        RunmergeOffice o = new RunmergeOffice();
        due(3, () -> o.fill(2, 5, -2, 3));
        due("5 3 1", () -> keysOf(o, 2));
        due(0, () -> o.mark(2));
        due(3, () -> o.fill(2, 999, 50, 0));
        due(3, () -> o.fill(2, 999, -50, 0));
        due(3, () -> o.fill(2, -999, 50, 0));
        due(4, () -> o.fill(2, 999, 50, 1));
        due(ARGUMENT, () -> o.fill(2, 999, 1, 2));
        due(ARGUMENT, () -> o.fill(2, -999, -1, 2));
        due(ARGUMENT, () -> o.fill(2, 1000, 0, 0));
        due(ARGUMENT, () -> o.fill(2, -1000, 0, 0));
        due(ARGUMENT, () -> o.fill(2, 0, 51, 1));
        due(ARGUMENT, () -> o.fill(2, 0, -51, 1));
        due(ARGUMENT, () -> o.fill(2, 0, 0, 51));
        due(ARGUMENT, () -> o.fill(2, 0, 0, -1));
        due(RANGE, () -> o.fill(8, 0, 0, -1));
        due(RANGE, () -> o.fill(-1, 0, 0, 1));
        due(50, () -> o.fill(0, -999, 40, 50));
        due(100, () -> o.fill(0, 999, -40, 50));
        due(100, () -> o.fill(0, 0, 0, 0));
        due(STATE, () -> o.fill(0, 0, 0, 1));
        due(ARGUMENT, () -> o.fill(0, 0, 0, 51));
        due(50, () -> o.fill(1, 0, 0, 50));
        due(STATE, () -> o.fill(3, 0, 0, 47));
        due(46, () -> o.fill(3, 0, 0, 46));
        due(0, () -> o.fill(4, 0, 0, 0));
        due(STATE, () -> o.fill(4, 0, 0, 1));
    }

    private static void scattering() {
        promise = 4;
        RunmergeOffice o = new RunmergeOffice();
        due(3, () -> o.scatter(0, 3, 999, 1));
        // x: 1103527590, 377401575, 662824084 (each / 65536: 16838, 5758, 10113)
        due("854 763 123", () -> keysOf(o, 0));
        due(0, () -> o.mark(0));
        due(5, () -> o.scatter(0, 2, 1, 0));
        due("854 763 123 0 0", () -> keysOf(o, 0));
        due(6, () -> o.scatter(0, 1, 7, Integer.MAX_VALUE));
        due((int) (((2147483647L * 1103515245L + 12345L) % 2147483648L) / 65536 % 7), () -> o.key(5));
        due(ARGUMENT, () -> o.scatter(0, -1, 1, 0));
        due(ARGUMENT, () -> o.scatter(0, 51, 1, 0));
        due(ARGUMENT, () -> o.scatter(0, 1, 0, 0));
        due(ARGUMENT, () -> o.scatter(0, 1, 1000, 0));
        due(ARGUMENT, () -> o.scatter(0, 1, 1, -1));
        due(RANGE, () -> o.scatter(8, 51, 0, -1));
        due(6, () -> o.scatter(0, 0, 1, 0));
        o.scatter(0, 50, 9, 5);
        due(STATE, () -> o.scatter(0, 45, 9, 5));
        due(ARGUMENT, () -> o.scatter(0, 45, 0, 5));
        due(100, () -> o.scatter(0, 44, 9, 5));
        o.scatter(1, 50, 9, 5);
        due(50, () -> o.scatter(2, 50, 9, 5));
        due(STATE, () -> o.scatter(3, 1, 9, 5));
        due(200, o::records);
    }

    private static void recordsAndTapes() {
        RunmergeOffice o = new RunmergeOffice();
        promise = 5;
        due(0, o::records);
        o.put(0, 5, 7);
        o.put(1, -6, 8);
        due(2, o::records);
        o.clear(0);
        due(2, o::records);
        promise = 6;
        due(5, () -> o.key(0));
        due(-6, () -> o.key(1));
        due(RANGE, () -> o.key(2));
        due(RANGE, () -> o.key(-1));
        due(RANGE, () -> o.key(200));
        promise = 7;
        due(7, () -> o.mark(0));
        due(8, () -> o.mark(1));
        due(RANGE, () -> o.mark(2));
        due(RANGE, () -> o.mark(-1));
        due(RANGE, () -> o.mark(Integer.MAX_VALUE));
        promise = 8;
        due(0, () -> o.length(0));
        due(1, () -> o.length(1));
        due(RANGE, () -> o.length(8));
        due(RANGE, () -> o.length(-1));
        promise = 9;
        due(1, () -> o.at(1, 0));
        due(RANGE, () -> o.at(1, 1));
        due(RANGE, () -> o.at(1, -1));
        due(RANGE, () -> o.at(8, 0));
        due(RANGE, () -> o.at(-1, 0));
        promise = 10;
        due(7, () -> o.digest(0));
        due(7 * 31 + 1, () -> o.digest(1));
        due(RANGE, () -> o.digest(8));
        o.fill(2, 0, 0, 50);
        int digest = 7;
        for (int i = 2; i < 52; i++) digest = digest * 31 + i;
        due(digest, () -> o.digest(2));
    }

    private static void orders() {
        promise = 11;
        RunmergeOffice o = with(3, 3, 5);
        due(true, () -> o.isSorted(0, 0));
        due(false, () -> o.isSorted(0, 1));
        due(true, () -> o.isSorted(7, 0));
        due(true, () -> o.isSorted(7, 1));
        due(RANGE, () -> o.isSorted(8, 2));
        due(RANGE, () -> o.isSorted(-1, 0));
        due(ARGUMENT, () -> o.isSorted(0, 2));
        due(ARGUMENT, () -> o.isSorted(0, -1));
        o.turn(0);
        due(false, () -> o.isSorted(0, 0));
        due(false, () -> o.isSorted(0, 1));
        RunmergeOffice p = with(5, 3, 3);
        due(true, () -> p.isSorted(0, 1));
        RunmergeOffice twice = with(4);
        twice.combine(0, 0, 1, RunmergeOffice.UNITE);
        due("0 0", () -> row(twice, 1));
        due(true, () -> twice.isSorted(1, 0));
        due(true, () -> twice.isSorted(1, 1));
    }

    private static void clearCopyTurn() {
        promise = 12;
        RunmergeOffice o = with(1, 2, 3);
        o.copy(0, 5);
        due(3, () -> o.clear(0));
        due(0, () -> o.clear(0));
        due("0 1 2", () -> row(o, 5));
        due(RANGE, () -> o.clear(8));
        due(RANGE, () -> o.clear(-1));
        promise = 13;
        due(3, () -> o.copy(5, 6));
        due("0 1 2", () -> row(o, 6));
        due(3, () -> o.copy(6, 6));
        due("0 1 2", () -> row(o, 6));
        due(0, () -> o.copy(0, 6));
        due("", () -> row(o, 6));
        due(RANGE, () -> o.copy(5, 8));
        due(RANGE, () -> o.copy(8, 5));
        due("0 1 2", () -> row(o, 5));
        promise = 14;
        due(3, () -> o.turn(5));
        due("2 1 0", () -> row(o, 5));
        o.put(5, 9, 9);
        due(4, () -> o.turn(5));
        due("3 0 1 2", () -> row(o, 5));
        due(0, () -> o.turn(0));
        due(RANGE, () -> o.turn(8));
        due(RANGE, () -> o.turn(-1));
    }

    private static void settings() {
        RunmergeOffice o = new RunmergeOffice();
        promise = 15;
        due(4, () -> o.setRuns(1, 2, 50));
        due(50, () -> o.setRuns(0, 0, 1));
        due(ARGUMENT, () -> o.setRuns(-1, 0, 2));
        due(ARGUMENT, () -> o.setRuns(2, 0, 2));
        due(ARGUMENT, () -> o.setRuns(1, -1, 2));
        due(ARGUMENT, () -> o.setRuns(1, 3, 2));
        due(ARGUMENT, () -> o.setRuns(1, 1, 0));
        due(ARGUMENT, () -> o.setRuns(1, 1, 51));
        due("0 0 1", () -> o.setting(0) + " " + o.setting(1) + " " + o.setting(2));
        promise = 16;
        due(2, () -> o.setMerge(2, 6));
        due(6, () -> o.setMerge(1, 3));
        due(ARGUMENT, () -> o.setMerge(-1, 2));
        due(ARGUMENT, () -> o.setMerge(3, 2));
        due(ARGUMENT, () -> o.setMerge(0, 1));
        due(ARGUMENT, () -> o.setMerge(0, 7));
        promise = 17;
        o.setRuns(1, 2, 9);
        due("1 2 9 1 3", () -> o.setting(0) + " " + o.setting(1) + " " + o.setting(2) + " " + o.setting(3) + " " + o.setting(4));
        due(ARGUMENT, () -> o.setting(-1));
        due(ARGUMENT, () -> o.setting(5));
    }

    private static void runsMade() {
        promise = 18;
        RunmergeOffice o = with(5, 1, 4, 2, 8, 3, 9, 0);
        o.setRuns(0, 0, 3);
        due("1 4 5|2 3 8|0 9", () -> runsOf(o, 0));
        o.setRuns(0, 1, 3);
        due("1 2 4 5 8 9|0 3", () -> runsOf(o, 0));
        o.setRuns(0, 1, 50);
        due("0 1 2 3 4 5 8 9", () -> runsOf(o, 0));
        o.setRuns(0, 2, 1);
        due("5|1 4|2 8|3 9|0", () -> runsOf(o, 0));
        o.setRuns(1, 0, 3);
        due("5 4 1|8 3 2|9 0", () -> runsOf(o, 0));
        o.setRuns(1, 1, 2);
        due("5 4 2 1|8 3 0|9", () -> runsOf(o, 0));
        o.setRuns(1, 2, 1);
        due("5 1|4 2|8 3|9 0", () -> runsOf(o, 0));
        due(0, () -> o.runs(1));
        due(RANGE, () -> o.runs(8));
        due(RANGE, () -> o.runs(-1));
        promise = 19;
        due(2, () -> o.runLength(0, 3));
        due(RANGE, () -> o.runLength(0, 4));
        due(RANGE, () -> o.runLength(0, -1));
        due(RANGE, () -> o.runLength(1, 0));
        due(RANGE, () -> o.runLength(8, 0));
        promise = 20;
        due(3, () -> o.runAt(0, 1, 1));
        due(RANGE, () -> o.runAt(0, 1, 2));
        due(RANGE, () -> o.runAt(0, 1, -1));
        due(RANGE, () -> o.runAt(0, 4, 0));
        due(RANGE, () -> o.runAt(1, 0, 0));
        due(RANGE, () -> o.runAt(-1, 0, 0));
        due("0 1 2 3 4 5 6 7", () -> row(o, 0));
        RunmergeOffice same = with(3, 3, 3);
        same.turn(0);
        same.setRuns(0, 2, 4);
        due("2 1 0", () -> same.runAt(0, 0, 0) + " " + same.runAt(0, 1, 0) + " " + same.runAt(0, 2, 0));
        same.setRuns(1, 1, 4);
        due("0 1 2", () -> same.runAt(0, 0, 0) + " " + same.runAt(0, 0, 1) + " " + same.runAt(0, 0, 2));
    }

    private static void plans() {
        promise = 21;
        RunmergeOffice o = new RunmergeOffice();
        o.fill(0, 100, -1, 7);
        o.setRuns(0, 0, 1);
        due("3 20 6 0", () -> plansOf(o, 0));
        o.setMerge(0, 3);
        due("2 13 3 0", () -> plansOf(o, 0));
        o.setMerge(1, 3);
        due("6 20 6 0", () -> plansOf(o, 0));
        o.setMerge(2, 3);
        // rows of 4, 3 and 2 (empty) runs: 2 + 2, then 4, then 7 moves
        due("3 15 4 3", () -> plansOf(o, 0));
        o.setMerge(2, 6);
        due("2 11 2 2", () -> plansOf(o, 0));
        o.setRuns(0, 0, 7);
        due("0 0 0 0", () -> plansOf(o, 0));
        due("0 0 0 0", () -> plansOf(o, 1));
        due(RANGE, () -> o.plan(8, 4));
        due(RANGE, () -> o.plan(-1, 0));
        due(ARGUMENT, () -> o.plan(0, 4));
        due(ARGUMENT, () -> o.plan(0, -1));
        promise = 22;
        RunmergeOffice p = with(1, 2, 3, 4, 0, 1, 0, 1, 2, 3, 4, 5);
        p.setRuns(0, 2, 1);
        due("1 2 3 4|0 1|0 1 2 3 4 5", () -> runsOf(p, 0));
        due(6 + 12, () -> p.leastMoves(0));
        due("2 18 2 0", () -> plansOf(p, 0));
        p.turn(0);
        due(0, () -> p.leastMoves(1));
        due(RANGE, () -> p.leastMoves(8));
        RunmergeOffice q = with(1, 0, 0, 1, 2, 0);
        q.setRuns(0, 2, 1);
        due("1|0 0 1 2|0", () -> runsOf(q, 0));
        due(8, () -> q.leastMoves(0));
    }

    private static void jobs() {
        promise = 23;
        RunmergeOffice o = with(5, 4, 3, 2, 1);
        o.setRuns(0, 0, 1);
        o.setMerge(0, 2);
        due(RANGE, () -> o.begin(0, 8));
        due(RANGE, () -> o.begin(8, 0));
        due(STATE, () -> o.job(0));
        due(5, () -> o.begin(0, 3));
        due("3 0 5 0 0 5 0 0", () -> jobOf(o));
        o.setRuns(1, 1, 9);
        o.setMerge(2, 5);
        o.clear(0);
        promise = 24;
        due(ARGUMENT, () -> o.work(0));
        due(ARGUMENT, () -> o.work(201));
        due(1, () -> o.work(1));
        due("3 0 4 0 1 7 0 0", () -> jobOf(o));
        promise = 25;
        due(2, o::tear);
        due("3 0 5 0 1 7 2 1", () -> jobOf(o));
        due(0, o::tear);
        due("3 0 5 0 1 7 2 2", () -> jobOf(o));
        due(2, () -> o.work(2));
        due("3 0 3 1 3 11 2 2", () -> jobOf(o));
        due(0, o::tear);
        due(0, () -> o.length(3));
        due(2, () -> o.work(200));
        promise = 26;
        due("3 1 1 3 5 20 2 3", () -> jobOf(o));
        due("4 3 2 1 0", () -> row(o, 3));
        due(ARGUMENT, () -> o.job(-1));
        due(ARGUMENT, () -> o.job(8));
        due(STATE, () -> o.work(1));
        due(ARGUMENT, () -> o.work(0));
        due(STATE, o::tear);
        due("3 1 1 3 5 20 2 3", () -> jobOf(o));
    }

    private static void moreJobs() {
        promise = 26;
        RunmergeOffice fresh = new RunmergeOffice();
        due(ARGUMENT, () -> fresh.job(8));
        due(STATE, () -> fresh.job(7));
        due(STATE, fresh::tear);
        due(STATE, () -> fresh.work(200));
        due(ARGUMENT, () -> fresh.work(-1));
        promise = 23;
        RunmergeOffice o = with(7, 6);
        o.put(1, 1, 1);
        due(0, () -> o.begin(2, 1));
        due("1 1 0 0 0 0 0 0", () -> jobOf(o));
        due(0, () -> o.length(1));
        due(1, () -> o.begin(0, 0));
        due("0 1 1 0 0 2 0 0", () -> jobOf(o));
        due("1 0", () -> row(o, 0));
        o.setMerge(2, 4);
        due(0, () -> o.begin(2, 1));
        due("1 1 0 0 0 0 0 0", () -> jobOf(o));
        o.fill(3, 9, -1, 5);
        o.setRuns(0, 2, 1);
        due(5, () -> o.begin(3, 3));
        due("3 0 7 0 0 5 0 0", () -> jobOf(o));
        due(1, () -> o.work(1));
        due("3 0 4 1 1 8 0 0", () -> jobOf(o));
        due(1, () -> o.work(9));
        due("3 1 1 2 2 13 0 0", () -> jobOf(o));
        due("5 6 7 8 9", () -> keysOf(o, 3));
        o.setMerge(1, 2);
        o.turn(3);
        o.begin(3, 4);
        due(2, () -> o.work(2));
        due(0, o::tear);
        due("4 0 3 2 2 9 0 1", () -> jobOf(o));
        due(2, () -> o.begin(0, 4) + (o.job(1) == 1 ? 1 : 0));
    }

    private static void sorting() {
        promise = 27;
        RunmergeOffice o = with(4, 3, 2, 1, 0);
        o.setRuns(0, 2, 1);
        o.begin(0, 7);
        String job = jobOf(o);
        due(5 + 4 + 4 + 5, () -> o.sort(0, 1));
        due("4 3 2 1 0", () -> row(o, 1));
        due(job, () -> jobOf(o));
        due(RANGE, () -> o.sort(0, 8));
        due(RANGE, () -> o.sort(-1, 0));
        o.setRuns(1, 2, 1);
        due(5, () -> o.sort(0, 0));
        due("0 1 2 3 4", () -> row(o, 0));
        due(0, () -> o.sort(2, 0));
        due("", () -> row(o, 0));
        RunmergeOffice all = new RunmergeOffice();
        all.scatter(0, 50, 30, 77);
        all.scatter(0, 50, 30, 78);
        for (int ways = 2; ways <= 6; ways++) {
            for (int way = 0; way < 9; way++) {
                all.setRuns(way % 2, way % 3, ways == 4 ? 1 : ways * 3);
                all.setMerge(way / 3, ways);
                int order = way % 2;
                due(all.plan(0, 1) + 100, () -> all.sort(0, 1));
                due(100, () -> all.length(1));
                due(true, () -> all.isSorted(1, order));
            }
        }
    }

    private static void combining() {
        promise = 28;
        RunmergeOffice o = with(1, 2, 2, 4);
        o.put(1, 2, 0);
        o.put(1, 3, 0);
        o.put(1, 4, 0);
        due(7, () -> o.combine(0, 1, 2, 0));
        due("0 1 2 4 5 3 6", () -> row(o, 2));
        due(3, () -> o.combine(0, 1, 3, 1));
        due("1 2 3", () -> row(o, 3));
        due(1, () -> o.combine(0, 1, 3, 2));
        due("0", () -> row(o, 3));
        due(1, () -> o.combine(1, 0, 3, 2));
        due("5", () -> row(o, 3));
        due(8, () -> o.combine(0, 0, 3, 0));
        due("0 0 1 1 2 2 3 3", () -> row(o, 3));
        due(4, () -> o.combine(0, 0, 4, 1));
        due(0, () -> o.combine(0, 0, 4, 2));
        due(3, () -> o.combine(0, 1, 0, 1));
        due("1 2 3", () -> row(o, 0));
        due(6, () -> o.combine(0, 1, 1, 0));
        due("1 2 4 5 3 6", () -> row(o, 1));
        due(RANGE, () -> o.combine(8, 0, 0, 9));
        due(RANGE, () -> o.combine(0, 8, 0, 9));
        due(RANGE, () -> o.combine(0, 0, 8, 9));
        due(ARGUMENT, () -> o.combine(0, 0, 0, 3));
        due(ARGUMENT, () -> o.combine(0, 0, 0, -1));
        o.turn(0);
        due(ARGUMENT, () -> o.combine(0, 0, 0, 3));
        due(STATE, () -> o.combine(0, 1, 5, 1));
        due(STATE, () -> o.combine(1, 0, 5, 2));
        due("", () -> row(o, 5));
        o.fill(6, 0, 1, 50);
        o.put(7, 0, 0);
        o.combine(6, 6, 5, 0);
        due(STATE, () -> o.combine(5, 7, 7, 0));
        due("57", () -> row(o, 7));
        due(100, () -> o.combine(5, 6, 7, 1));
        due(0, () -> o.combine(5, 6, 7, 2));
        due(100, () -> o.combine(5, 7, 7, 0));
    }

    private static void thinning() {
        promise = 29;
        RunmergeOffice o = with(1, 1, 1, 2, 1, 3, 3);
        o.copy(0, 1);
        due(3, () -> o.thin(0, false));
        due("0 3 4 5", () -> row(o, 0));
        due(0, () -> o.thin(0, false));
        due(3, () -> o.thin(1, true));
        due("2 3 4 6", () -> row(o, 1));
        due(0, () -> o.thin(2, true));
        due(RANGE, () -> o.thin(8, true));
        due(RANGE, () -> o.thin(-1, false));
    }

    private static void lookingUp() {
        RunmergeOffice o = with(-5, 1, 1, 4);
        o.put(1, 2, 0);
        o.put(1, 1, 0);
        int low = Integer.MIN_VALUE, high = Integer.MAX_VALUE;
        promise = 30;
        due(1, () -> o.find(0, 1));
        due(3, () -> o.find(0, 4));
        due(-1, () -> o.find(0, 2));
        due(-1, () -> o.find(0, low));
        due(-1, () -> o.find(0, high));
        due(-1, () -> o.find(2, 0));
        due(STATE, () -> o.find(1, 1));
        due(RANGE, () -> o.find(8, 1));
        promise = 31;
        due(1, () -> o.floor(0, 1));
        due(1, () -> o.floor(0, 3));
        due(4, () -> o.floor(0, high));
        due(-5, () -> o.floor(0, -5));
        due(ELEMENT, () -> o.floor(0, -6));
        due(ELEMENT, () -> o.floor(0, low));
        due(ELEMENT, () -> o.floor(2, 0));
        due(STATE, () -> o.floor(1, low));
        due(RANGE, () -> o.floor(-1, low));
        promise = 32;
        due(1, () -> o.ceiling(0, 1));
        due(4, () -> o.ceiling(0, 2));
        due(-5, () -> o.ceiling(0, low));
        due(4, () -> o.ceiling(0, 4));
        due(ELEMENT, () -> o.ceiling(0, 5));
        due(ELEMENT, () -> o.ceiling(0, high));
        due(ELEMENT, () -> o.ceiling(2, 0));
        due(STATE, () -> o.ceiling(1, high));
        due(RANGE, () -> o.ceiling(8, high));
        promise = 33;
        due(4, () -> o.between(0, low, high));
        due(3, () -> o.between(0, -5, 1));
        due(2, () -> o.between(0, -4, 3));
        due(0, () -> o.between(0, 2, 3));
        due(0, () -> o.between(0, 4, 1));
        due(0, () -> o.between(0, high, low));
        due(0, () -> o.between(2, low, high));
        due(STATE, () -> o.between(1, 0, 1));
        due(RANGE, () -> o.between(8, 0, 1));
        promise = 34;
        due(3, () -> o.keys(0));
        due(0, () -> o.keys(2));
        due(STATE, () -> o.keys(1));
        due(RANGE, () -> o.keys(8));
    }

    private static void typing() {
        promise = 35;
        RunmergeOffice o = new RunmergeOffice();
        due(0, () -> o.type(0L));
        due(8, () -> o.type(0x736f727420302069L));
        due(14, () -> o.type(0x006e746f0020313bL));
        due(0, o::errorKind);
        due(16, () -> o.type(0xff00000000000001L));
        due(1, o::errorKind);
        due(14, o::errorPlace);
        promise = 36;
        due(16, o::clearText);
        due(0, o::clearText);
        promise = 37;
        due(0, o::textLength);
        for (int i = 0; i < 19; i++) o.type(0x2020202020202020L);
        o.type(0x202020202020L);
        due(158, o::textLength);
        due(STATE, () -> o.type(0x200020002000L));
        due(158, o::textLength);
        due(160, () -> o.type(0x200020L));
        due(160, () -> o.type(0L));
        due(STATE, () -> o.type(0x20L));
        due(0, o::errorKind);
        due(0, o::run);
    }

    private static void examples() {
        promise = 38;
        RunmergeOffice o = with(3, 1, 2, 2);
        due(84, () -> o.example(0));
        due(84, o::textLength);
        due(4, o::run);
        due("1 2 2 3", () -> keysOf(o, 1));
        due("1 2 2 3", () -> keysOf(o, 2));
        due("1 2 3", () -> keysOf(o, 3));
        due("1 2 0", () -> row(o, 3));
        due(107, () -> o.example(1));
        due(66, () -> o.example(2));
        due(5, o::run);
        due("3 2 1", () -> keysOf(o, 6));
        due("0 3 1", () -> row(o, 6));
        due("", () -> row(o, 5));
        due(ARGUMENT, () -> o.example(3));
        due(ARGUMENT, () -> o.example(-1));
        due(66, o::textLength);
    }

    private static void fault(RunmergeOffice o, String text, int kind, int place) {
        // Each of both answers must be about this text, whichever is asked for first.
        write(o, text);
        due(kind, o::errorKind);
        write(o, "");
        due(-1, o::errorPlace);
        write(o, text);
        due(place, o::errorPlace);
        if (kind != 0) due(STATE, o::run);
    }

    private static void faults() {
        promise = 39;
        RunmergeOffice o = with(2, 1);
        o.copy(0, 1);
        fault(o, "", 0, -1);
        fault(o, "   ", 0, -1);
        fault(o, ";", 1, 0);
        fault(o, "turn 0;;", 1, 7);
        fault(o, " sorted 0 into 1;", 1, 1);
        fault(o, "sortz 0 into 1;", 1, 0);
        fault(o, "asort 0 into 1;", 1, 0);
        fault(o, "sort`0 into 1;", 1, 4);
        fault(o, "sort 0/into 1;", 1, 6);
        fault(o, "sort 0:into 1;", 1, 6);
        fault(o, "sort {", 1, 5);
        fault(o, "sort", 1, 4);
        fault(o, "sort 0 into 1  ", 1, 15);
        fault(o, "sort into 1;", 1, 5);
        fault(o, "sort 0 1;", 1, 7);
        fault(o, "sort 8 @", 2, 5);
        fault(o, "sort 0 into 10;", 2, 12);
        fault(o, "sort 0 into 99999999999999999999;", 2, 12);
        fault(o, "sort 0 into 0000000000000000000001;", 0, -1);
        fault(o, "sort0into1full50poly6;", 0, -1);
        fault(o, "sort 0 into 1 full 0;", 2, 19);
        fault(o, "sort 0 into 1 full 51;", 2, 19);
        fault(o, "sort 0 into 1 full poly 3;", 1, 19);
        fault(o, "sort 0 into 1 full;", 1, 18);
        fault(o, "sort 0 into 1 replace 51;", 2, 22);
        fault(o, "sort 0 into 1 balanced 1;", 2, 23);
        fault(o, "sort 0 into 1 balanced 7;", 2, 23);
        fault(o, "sort 0 into 1 poly 7 up;", 2, 19);
        fault(o, "sort 0 into 1 natural 3;", 1, 22);
        fault(o, "sort 0 into 1 up down shortest natural up;", 0, -1);
        fault(o, "sort 0 into 1 into;", 1, 14);
        fault(o, "Turn 0;", 1, 0);
        fault(o, "turn 0 \u00ff;", 1, 7);
        fault(o, "turn 0\u0009;", 1, 6);
        fault(o, "turn -1;", 1, 5);
        fault(o, "turn 0 1;", 1, 7);
        fault(o, "copy 0 into 1 up;", 1, 14);
        fault(o, "copy 0 8 into 1;", 1, 7);
        fault(o, "unite 0 1 2;", 1, 10);
        fault(o, "unite 01 into 2;", 1, 9);
        fault(o, "without 0 into 2;", 1, 10);
        fault(o, "clear 8; bad", 2, 6);
        fault(o, "unite 0 1 into 2; clear 9;", 2, 24);
        promise = 40;
        fault(o, "turn 0; common 0 1 into 2;", 3, 8);
        fault(o, "  unite 0 0 into 2;", 3, 2);
        fault(o, "turn 0; turn 1; common 0 1 into 2;", 0, -1);
        fault(o, "sort 0 into 0; sort 1 into 1; without 0 1 into 2; unite 2 2 into 2;", 0, -1);
        due("0 1", () -> row(o, 0));
        RunmergeOffice p = new RunmergeOffice();
        p.fill(0, 0, 1, 50);
        p.put(1, 5, 0);
        fault(p, "unite 0 0 into 2; unite 2 2 into 3;", 3, 18);
        fault(p, "unite 0 0 into 2; unite 2 1 into 3;", 3, 18);
        fault(p, "unite 0 0 into 2; common 2 1 into 3; last 3; unite 2 4 into 4;", 0, -1);
    }

    private static void programs() {
        promise = 41;
        RunmergeOffice o = with(3, 1, 2, 3, 1);
        o.begin(0, 7);
        String job = jobOf(o);
        o.setRuns(1, 0, 2);
        write(o, "sort 0 into 1 natural replace 3; copy 1 into 2; turn 2; first 2; sort 0 into 3 down up; last 3; clear 0;");
        due(7, o::run);
        due("3 3 2 1 1", () -> keysOf(o, 1));
        due("0 3 2 1 4", () -> row(o, 1));
        due("4 2 3", () -> row(o, 2));
        due("4 2 3", () -> row(o, 3));
        due("", () -> row(o, 0));
        due(job, () -> jobOf(o));
        due("1 0 2 0 2", () -> o.setting(0) + " " + o.setting(1) + " " + o.setting(2) + " " + o.setting(3) + " " + o.setting(4));
        write(o, "clear 1; clear 2; unite 3 3 into 0; unite 0 1 into 1; turn 1; unite 0 1 into 0;");
        due(STATE, o::run);
        due(5, () -> o.length(1));
        write(o, "unite 3 3 into 0; common 0 3 into 4; without 0 3 into 5;");
        due(3, o::run);
        due("4 4 2 2 3 3", () -> row(o, 4));
        due("", () -> row(o, 5));
        o.clearText();
        due(0, o::run);
    }

    private static void sums() {
        promise = 42;
        RunmergeOffice o = new RunmergeOffice();
        o.scatter(0, 50, 40, 3);
        o.scatter(0, 50, 999, 4);
        for (int i = 0; i < 60; i++) {
            o.setRuns(i % 2, i % 3, i < 50 ? i + 1 : 1);
            o.setMerge(i % 3, 2 + i % 5);
            due(0, () -> o.errors(0));
        }
        due(0, () -> o.errors(1));
        due(RANGE, () -> o.errors(8));
        due(RANGE, () -> o.errors(-1));
        due(0, () -> o.length(1));
        promise = 43;
        RunmergeOffice p = with(1, 2, -5);
        due(-2.0 / 3.0, () -> p.meanKey(0));
        due(0.0, () -> p.meanKey(1));
        p.put(2, 0, 1);
        due(0.0, () -> p.meanKey(2));
        due(RANGE, () -> p.meanKey(8));
        due(RANGE, () -> p.meanKey(-1));
        promise = 44;
        due(0.875f, p::sortedShare);
        p.copy(0, 1);
        p.copy(0, 7);
        due(0.625f, p::sortedShare);
        p.clear(0);
        due(0.75f, p::sortedShare);
        due(1.0f, () -> new RunmergeOffice().sortedShare());
    }

    public static void main(String[] args) {
        newObject();
        putting();
        filling();
        scattering();
        recordsAndTapes();
        orders();
        clearCopyTurn();
        settings();
        runsMade();
        plans();
        jobs();
        moreJobs();
        sorting();
        combining();
        thinning();
        lookingUp();
        typing();
        examples();
        faults();
        programs();
        sums();
        System.out.println(wrong == 0 ? "all promises hold" : wrong + " answers are not as due");
        if (wrong != 0) System.exit(1);
    }
}
