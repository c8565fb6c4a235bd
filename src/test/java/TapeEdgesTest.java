import java.math.BigInteger;

/** The edges of rules, records and tapes (Terms 1 and 2, promises 1 to 14, 43 and 44). */
public final class TapeEdgesTest extends Edges {
    interface OnOffice { Object answer(RunmergeOffice o); }

    public static void main(String[] args) {
        useOfAnObject();
        exceptions();
        records();
        tapes();
        orders();
        putting();
        filling();
        scattering();
        readingRecords();
        readingTapes();
        changingTapes();
        shares();
        end();
    }

    // ---- Rules ----

    private static void useOfAnObject() {
        test("An object is used for at most 512 calls after it has been made", () -> {
            RunmergeOffice o = new RunmergeOffice();
            for (int i = 0; i < 10; i++) o.scatter(i / 2, 20, 999, i);
            for (int i = 10; i < 500; i++) o.errors(i % 5);
            due(true, () -> o.fill(7, 1, 1, 0) == 0 && o.begin(0, 7) > 1 && o.work(200) > 0);
            due(40, () -> o.length(7));
            due(true, () -> o.isSorted(7, 0));
            write(o, "turn 7;");
            due(1, o::run);
            due(false, () -> o.isSorted(7, 0));
            due(0, () -> o.errors(7));
            due(200, o::records);
        });
        test("Creates an office without records, with eight empty tapes, without a job, and with an empty text.", () -> {
            RunmergeOffice o = new RunmergeOffice();
            due(0, o::records);
            due(RANGE, () -> o.key(0));
            for (int i = 0; i < 8; i++) {
                int tape = i;
                due(0, () -> o.length(tape));
                due(RANGE, () -> o.at(tape, 0));
            }
            for (int i = 0; i < 8; i++) {
                int what = i;
                due(STATE, () -> o.job(what));
            }
            due(0, o::textLength);
            due(0, o::clearText);
            due(0, o::errorKind);
            due(NONE, o::errorPlace);
            due(0, o::run);
        });
    }

    /** An office with a tape that is out of order, one in order, a full one, a job under way, and a text with an error. */
    private static RunmergeOffice busy() {
        RunmergeOffice o = new RunmergeOffice();
        o.scatter(0, 20, 30, 5);
        o.fill(1, -20, 1, 50);
        o.put(1, 30, 77);
        o.fill(2, 0, 0, 50);
        o.fill(2, 9, 0, 50);
        o.setRuns(0, 0, 2);
        o.begin(0, 5);
        o.work(2);
        o.tear();
        o.work(1);
        o.setRuns(1, 0, 3);
        o.setMerge(2, 5);
        write(o, "turn 0; copy 0 into 8;");
        for (int i = 0; i < 134; i++) o.type(' ');
        return o;
    }

    /** After the refused call the office must go on as one that was never asked. */
    private static void leavesAsItIs(Class<?> want, OnOffice call) {
        RunmergeOffice asked = busy(), other = busy();
        refused(want, asked, () -> call.answer(asked));
        due(other.put(3, 1, 2), () -> asked.put(3, 1, 2));
        due(other.work(1), () -> asked.work(1));
        due(other.tear(), asked::tear);
        due(other.work(200), () -> asked.work(200));
        due(runsOf(other, 0), () -> runsOf(asked, 0));
        due(state(other), () -> state(asked));
    }

    private static void exceptions() {
        test("If several exceptions apply to a call, the one that is listed first is thrown", () -> {
            RunmergeOffice o = full();
            due(RANGE, () -> o.put(8, 1000, -1));
            due(ARGUMENT, () -> o.put(0, 1000, 0));
            due(ARGUMENT, () -> o.put(0, 0, -1));
            due(RANGE, () -> o.fill(-1, 0, 51, 51));
            due(ARGUMENT, () -> o.fill(0, 0, 51, 50));
            due(ARGUMENT, () -> o.fill(0, 999, 1, 50));
            due(RANGE, () -> o.scatter(8, 51, 0, -1));
            due(ARGUMENT, () -> o.scatter(0, 50, 0, 1));
            due(RANGE, () -> o.put(8, 0, 0));
            due(RANGE, () -> o.fill(8, 0, 0, 1));
            due(RANGE, () -> o.scatter(8, 1, 1, 0));
            due(RANGE, () -> o.isSorted(8, 2));
            due(RANGE, () -> o.plan(8, 4));
            due(ARGUMENT, () -> o.work(0));
            due(ARGUMENT, () -> o.work(201));
            due(ARGUMENT, () -> o.job(8));
            due(ARGUMENT, () -> o.job(-1));
            o.turn(0);
            due(RANGE, () -> o.combine(8, 0, 0, 3));
            due(RANGE, () -> o.combine(0, 8, 0, 3));
            due(RANGE, () -> o.combine(0, 0, 8, 3));
            due(RANGE, () -> o.combine(0, 0, 8, 0));
            due(ARGUMENT, () -> o.combine(0, 1, 2, 3));
            due(STATE, () -> o.floor(0, LOWEST));
            due(STATE, () -> o.ceiling(0, HIGHEST));
            due(RANGE, () -> o.floor(8, LOWEST));
            due(RANGE, () -> o.ceiling(8, HIGHEST));
        });
        test("a call that throws an exception changes nothing", () -> {
            refusedPuts();
            refusedReads();
            refusedSettings();
            refusedJobs();
            refusedUses();
        });
        test("An IndexOutOfBoundsException is thrown for a record, a tape, a run or a place that does not exist.", () -> {
            RunmergeOffice o = with(3, 2, 1);
            o.setRuns(0, 2, 1);
            int[] missing = {-1, 3, 200, LOWEST, HIGHEST};
            for (int none : missing) {
                due(RANGE, () -> o.key(none));
                due(RANGE, () -> o.mark(none));
                due(RANGE, () -> o.at(0, none));
                due(RANGE, () -> o.runLength(0, none));
                due(RANGE, () -> o.runAt(0, none, 0));
                due(RANGE, () -> o.runAt(0, 0, none));
            }
            due(RANGE, () -> o.runAt(0, 0, 1));
        });
        test("Everything is numbered from 0.", () -> {
            RunmergeOffice o = new RunmergeOffice();
            due(0, () -> o.put(0, 5, 6));
            due(5, () -> o.key(0));
            due(6, () -> o.mark(0));
            due(0, () -> o.at(0, 0));
            due(1, () -> o.runLength(0, 0));
            due(0, () -> o.runAt(0, 0, 0));
            due(0, () -> o.find(0, 5));
            write(o, "@");
            due(0, o::errorPlace);
        });
    }

    private static void refusedPuts() {
        leavesAsItIs(RANGE, o -> o.put(8, 0, 0));
        leavesAsItIs(ARGUMENT, o -> o.put(0, 1000, 0));
        leavesAsItIs(ARGUMENT, o -> o.put(0, 0, 10000));
        leavesAsItIs(STATE, o -> o.put(2, 0, 0));
        leavesAsItIs(RANGE, o -> o.fill(8, 0, 0, 1));
        leavesAsItIs(ARGUMENT, o -> o.fill(0, 1000, 0, 1));
        leavesAsItIs(ARGUMENT, o -> o.fill(0, 0, 51, 1));
        leavesAsItIs(ARGUMENT, o -> o.fill(0, 0, 0, 51));
        leavesAsItIs(ARGUMENT, o -> o.fill(0, 990, 1, 11));
        leavesAsItIs(STATE, o -> o.fill(2, 0, 0, 1));
        leavesAsItIs(STATE, o -> o.fill(0, 0, 0, 50));
        leavesAsItIs(RANGE, o -> o.scatter(8, 1, 1, 0));
        leavesAsItIs(ARGUMENT, o -> o.scatter(0, 51, 1, 0));
        leavesAsItIs(ARGUMENT, o -> o.scatter(0, 1, 0, 0));
        leavesAsItIs(ARGUMENT, o -> o.scatter(0, 1, 1, -1));
        leavesAsItIs(STATE, o -> o.scatter(2, 1, 1, 0));
        leavesAsItIs(STATE, o -> o.scatter(0, 50, 1, 0));
    }

    private static void refusedReads() {
        leavesAsItIs(RANGE, o -> o.key(-1));
        leavesAsItIs(RANGE, o -> o.mark(171));
        leavesAsItIs(RANGE, o -> o.length(8));
        leavesAsItIs(RANGE, o -> o.at(0, 20));
        leavesAsItIs(RANGE, o -> o.digest(8));
        leavesAsItIs(RANGE, o -> o.isSorted(8, 0));
        leavesAsItIs(ARGUMENT, o -> o.isSorted(0, 2));
        leavesAsItIs(RANGE, o -> o.runs(8));
        leavesAsItIs(RANGE, o -> o.runLength(0, 7));
        leavesAsItIs(RANGE, o -> o.runAt(0, 0, 3));
        leavesAsItIs(RANGE, o -> o.plan(8, 0));
        leavesAsItIs(ARGUMENT, o -> o.plan(0, 4));
        leavesAsItIs(RANGE, o -> o.leastMoves(8));
        leavesAsItIs(RANGE, o -> o.errors(8));
        leavesAsItIs(RANGE, o -> o.meanKey(8));
    }

    private static void refusedSettings() {
        leavesAsItIs(ARGUMENT, o -> o.setRuns(2, 2, 9));
        leavesAsItIs(ARGUMENT, o -> o.setRuns(0, 3, 9));
        leavesAsItIs(ARGUMENT, o -> o.setRuns(0, 2, 51));
        leavesAsItIs(ARGUMENT, o -> o.setMerge(3, 2));
        leavesAsItIs(ARGUMENT, o -> o.setMerge(0, 7));
        leavesAsItIs(ARGUMENT, o -> o.setting(5));
    }

    private static void refusedJobs() {
        leavesAsItIs(RANGE, o -> o.begin(8, 0));
        leavesAsItIs(RANGE, o -> o.begin(0, 8));
        leavesAsItIs(ARGUMENT, o -> o.work(0));
        leavesAsItIs(ARGUMENT, o -> o.work(201));
        leavesAsItIs(ARGUMENT, o -> o.job(8));
        leavesAsItIs(RANGE, o -> o.sort(8, 0));
        leavesAsItIs(RANGE, o -> o.sort(0, 8));
        RunmergeOffice none = with(2, 1);
        refused(STATE, none, () -> none.work(1));
        refused(STATE, none, none::tear);
        refused(STATE, none, () -> none.job(0));
        RunmergeOffice over = with(2, 1);
        over.begin(0, 1);
        refused(STATE, over, () -> over.work(1));
        refused(STATE, over, over::tear);
    }

    private static void refusedUses() {
        leavesAsItIs(RANGE, o -> o.clear(8));
        leavesAsItIs(RANGE, o -> o.copy(0, 8));
        leavesAsItIs(RANGE, o -> o.copy(8, 0));
        leavesAsItIs(RANGE, o -> o.turn(8));
        leavesAsItIs(RANGE, o -> o.combine(1, 1, 8, 1));
        leavesAsItIs(ARGUMENT, o -> o.combine(1, 1, 1, 3));
        leavesAsItIs(STATE, o -> o.combine(1, 0, 1, 2));
        leavesAsItIs(STATE, o -> o.combine(0, 1, 1, 1));
        leavesAsItIs(STATE, o -> o.combine(1, 1, 1, 0));
        leavesAsItIs(RANGE, o -> o.thin(8, true));
        leavesAsItIs(STATE, o -> o.find(0, 1));
        leavesAsItIs(STATE, o -> o.floor(0, 1));
        leavesAsItIs(ELEMENT, o -> o.floor(1, -21));
        leavesAsItIs(STATE, o -> o.ceiling(0, 1));
        leavesAsItIs(ELEMENT, o -> o.ceiling(1, 31));
        leavesAsItIs(STATE, o -> o.between(0, 1, 1));
        leavesAsItIs(STATE, o -> o.keys(0));
        leavesAsItIs(STATE, o -> o.type(0x2020202020L));
        leavesAsItIs(ARGUMENT, o -> o.example(3));
        leavesAsItIs(STATE, o -> o.run());
    }

    // ---- Records and tapes ----

    private static void records() {
        test("There are at most 200 records, numbered in the order in which they come.", () -> {
            RunmergeOffice o = new RunmergeOffice();
            due(0, () -> o.put(3, 4, 0));
            due(2, () -> o.fill(0, 7, 1, 2));
            due(1, () -> o.scatter(1, 1, 1, 0));
            due(4, () -> o.put(3, 5, 0));
            due("0 4", () -> row(o, 3));
            due("1 2", () -> row(o, 0));
            due("3", () -> row(o, 1));
            for (int i = 0; i < 3; i++) o.fill(4 + i, 0, 0, 50);
            o.fill(7, 0, 0, 44);
            due(199, () -> o.put(7, 8, 9));
            due("8 9", () -> o.key(199) + " " + o.mark(199));
            due(200, o::records);
            refused(STATE, o, () -> o.put(7, 0, 0));
            due("8 9", () -> o.key(199) + " " + o.mark(199));
            refused(STATE, o, () -> o.fill(2, 0, 0, 1));
            refused(STATE, o, () -> o.scatter(2, 1, 1, 0));
        });
        test("A record has a key (-999 to 999) and a mark (0 to 9999), which never change", () -> {
            RunmergeOffice o = new RunmergeOffice();
            o.put(0, 999, 0);
            o.put(0, -999, 9999);
            o.put(0, 999, 8);
            o.sort(0, 1);
            o.thin(1, true);
            o.combine(1, 1, 2, 0);
            o.turn(0);
            o.example(1);
            o.run();
            for (int t = 0; t < 8; t++) o.clear(t);
            due("999 -999 999", () -> o.key(0) + " " + o.key(1) + " " + o.key(2));
            due("0 9999 8", () -> o.mark(0) + " " + o.mark(1) + " " + o.mark(2));
        });
        test("marks are never looked at to sort", () -> {
            RunmergeOffice o = new RunmergeOffice();
            o.put(0, 5, 9);
            o.put(0, 5, 1);
            o.put(0, 5, 5);
            due(true, () -> o.isSorted(0, 0));
            due(true, () -> o.isSorted(0, 1));
            for (int i = 0; i < 6; i++) {
                o.setRuns(i % 2, i / 2, 1);
                o.sort(0, 1);
                due("0 1 2", () -> row(o, 1));
            }
        });
    }

    private static void tapes() {
        test("There are eight tapes.", () -> {
            RunmergeOffice o = new RunmergeOffice();
            o.fill(7, 3, -1, 3);
            due(3, () -> o.length(7));
            due(3, () -> o.sort(7, 6));
            refusesOtherTapes(o, (x, t) -> x.put(t, 0, 0));
            refusesOtherTapes(o, (x, t) -> x.fill(t, 0, 0, 0));
            refusesOtherTapes(o, (x, t) -> x.scatter(t, 0, 1, 0));
            refusesOtherTapes(o, RunmergeOffice::length);
            refusesOtherTapes(with(), (x, t) -> x.at(t, 0));
            refusesOtherTapes(with(), RunmergeOffice::digest);
            refusesOtherTapes(with(), (x, t) -> x.isSorted(t, 0));
            refusesOtherTapes(with(), RunmergeOffice::clear);
            refusesOtherTapes(with(1), (x, t) -> x.copy(t, 0));
            refusesOtherTapes(with(1), (x, t) -> x.copy(0, t));
            refusesOtherTapes(with(), RunmergeOffice::turn);
            refusesOtherTapes(with(), RunmergeOffice::runs);
            refusesOtherTapes(with(), (x, t) -> x.runLength(t, 0));
            refusesOtherTapes(with(), (x, t) -> x.runAt(t, 0, 0));
            refusesOtherTapes(with(), (x, t) -> x.plan(t, 0));
            refusesOtherTapes(with(), RunmergeOffice::leastMoves);
            refusesOtherTapes(with(1), (x, t) -> x.begin(t, 0));
            refusesOtherTapes(with(1), (x, t) -> x.begin(0, t));
            refusesOtherTapes(with(1), (x, t) -> x.sort(t, 0));
            refusesOtherTapes(with(1), (x, t) -> x.sort(0, t));
            refusesOtherTapes(with(1), (x, t) -> x.combine(t, 0, 1, 0));
            refusesOtherTapes(with(1), (x, t) -> x.combine(0, t, 1, 0));
            refusesOtherTapes(with(1), (x, t) -> x.combine(0, 0, t, 0));
            refusesOtherTapes(with(), (x, t) -> x.thin(t, false));
            refusesOtherTapes(with(), (x, t) -> x.find(t, 0));
            refusesOtherTapes(with(), (x, t) -> x.floor(t, 0));
            refusesOtherTapes(with(), (x, t) -> x.ceiling(t, 0));
            refusesOtherTapes(with(), (x, t) -> x.between(t, 0, 0));
            refusesOtherTapes(with(), RunmergeOffice::keys);
            refusesOtherTapes(with(), RunmergeOffice::errors);
            refusesOtherTapes(with(), RunmergeOffice::meanKey);
        });
        test("A tape holds a row of at most 100 records", () -> {
            RunmergeOffice o = full();
            due(100, () -> o.length(0));
            due(99, () -> o.at(0, 99));
            due(100, () -> o.copy(0, 7));
            due(100, () -> o.turn(7));
            o.sort(7, 6);
            due(100, () -> o.length(6));
            due(99, () -> o.at(6, 99));
            due(100, () -> o.combine(1, 2, 5, 0));
            due(100, () -> o.combine(6, 6, 5, 1));
            RunmergeOffice p = new RunmergeOffice();
            p.fill(0, 0, 0, 50);
            p.fill(0, 0, 0, 49);
            refused(STATE, p, () -> p.fill(0, 0, 0, 2));
            refused(STATE, p, () -> p.scatter(0, 2, 1, 0));
            due(99, () -> p.put(0, 0, 0));
            refused(STATE, p, () -> p.put(0, 0, 0));
            due(100, () -> p.put(1, 0, 0));
            refused(STATE, p, () -> p.combine(0, 1, 2, 0));
        });
        test("a record can be on several tapes, and more than once on one", () -> {
            RunmergeOffice o = with(6);
            o.copy(0, 1);
            o.combine(0, 1, 2, 0);
            o.combine(2, 0, 3, 0);
            due("0|0|0 0|0 0 0", () -> row(o, 0) + "|" + row(o, 1) + "|" + row(o, 2) + "|" + row(o, 3));
            due(3, () -> o.sort(3, 3));
            due("0 0 0", () -> row(o, 3));
            due(1, o::records);
        });
    }

    private static void orders() {
        test("One record is before another one, UP, if its key is less, or if the keys are the same and its number is less", () -> {
            RunmergeOffice o = new RunmergeOffice();
            put(o, 0, 1, 2);
            put(o, 1, 2, 1);
            put(o, 2, -999, 999);
            put(o, 3, 7, 7);
            due(true, () -> o.isSorted(0, 0));
            due(false, () -> o.isSorted(1, 0));
            due(true, () -> o.isSorted(2, 0));
            due(true, () -> o.isSorted(3, 0));
            o.turn(3);
            due(false, () -> o.isSorted(3, 0));
            o.sort(3, 3);
            due("6 7", () -> row(o, 3));
        });
        test("DOWN, if its key is greater, or if the keys are the same and its number is less", () -> {
            RunmergeOffice o = new RunmergeOffice();
            put(o, 0, 2, 1);
            put(o, 1, 1, 2);
            put(o, 2, 999, -999);
            put(o, 3, 7, 7);
            due(true, () -> o.isSorted(0, 1));
            due(false, () -> o.isSorted(1, 1));
            due(true, () -> o.isSorted(2, 1));
            due(true, () -> o.isSorted(3, 1));
            o.turn(3);
            due(false, () -> o.isSorted(3, 1));
            o.setRuns(1, 0, 2);
            o.sort(3, 3);
            due("6 7", () -> row(o, 3));
        });
        test("Records are in order, UP or DOWN, if none of them is followed at once by one that is before it.", () -> {
            RunmergeOffice o = new RunmergeOffice();
            put(o, 1, 4);
            put(o, 2, 1, 2, 3, 2);
            put(o, 3, 2, 1, 2, 3);
            put(o, 4, 3, 2, 1, 2);
            put(o, 5, 2, 3, 2, 1);
            for (int i = 0; i < 2; i++) {
                int order = i;
                due(true, () -> o.isSorted(0, order));
                due(true, () -> o.isSorted(1, order));
                for (int t = 2; t < 6; t++) {
                    int tape = t;
                    due(false, () -> o.isSorted(tape, order));
                }
            }
            // The same record twice: none of both is before the other.
            o.combine(1, 1, 6, 0);
            due(true, () -> o.isSorted(6, 0));
            due(true, () -> o.isSorted(6, 1));
        });
        test("Tells whether the records of a tape are in order. - `tape`: number of a tape - `order`: UP or DOWN", () -> {
            RunmergeOffice o = with(1, 2);
            due(true, () -> o.isSorted(0, 0));
            due(false, () -> o.isSorted(0, 1));
            for (int none : new int[] {-1, 2, LOWEST, HIGHEST}) due(ARGUMENT, () -> o.isSorted(0, none));
        });
    }

    // ---- put, fill, scatter ----

    private static void putting() {
        test("Makes a record and puts it at the end of a tape. - `tape`: number of a tape - `key`: -999 to 999 - `mark`: 0 to 9999", () -> {
            RunmergeOffice o = new RunmergeOffice();
            due(0, () -> o.put(0, -999, 0));
            due(1, () -> o.put(0, 999, 9999));
            due("-999 999", () -> keysOf(o, 0));
            due("0 9999", () -> o.mark(0) + " " + o.mark(1));
            for (int key : new int[] {-1000, 1000, LOWEST, HIGHEST}) due(ARGUMENT, () -> o.put(0, key, 0));
            for (int mark : new int[] {-1, 10000, LOWEST, HIGHEST}) due(ARGUMENT, () -> o.put(0, 0, mark));
            due(2, o::records);
        });
        test("Throws `IllegalStateException` if there are 200 records, or 100 on this tape", () -> {
            RunmergeOffice o = new RunmergeOffice();
            o.fill(0, 0, 0, 50);
            o.fill(0, 0, 0, 49);
            due(99, () -> o.put(0, 0, 0));
            refused(STATE, o, () -> o.put(0, 0, 0));
            due(100, () -> o.put(1, 0, 0));
            o.fill(2, 0, 0, 50);
            o.fill(3, 0, 0, 48);
            due(199, () -> o.put(1, 0, 0));
            refused(STATE, o, () -> o.put(1, 0, 0));
            refused(STATE, o, () -> o.put(4, 0, 0));
            o.clear(0);
            refused(STATE, o, () -> o.put(0, 0, 0));
        });
    }

    private static void filling() {
        test("Makes records with the keys first, first + step, and so on, and puts them at the end of a tape; each mark is 0.", () -> {
            RunmergeOffice o = new RunmergeOffice();
            o.put(0, 9, 9);
            due(3, () -> o.fill(0, 5, -3, 2));
            due(4, () -> o.fill(0, 8, 0, 1));
            due("9 5 2 8", () -> keysOf(o, 0));
            due("9 0 0 0", () -> o.mark(0) + " " + o.mark(1) + " " + o.mark(2) + " " + o.mark(3));
        });
        test("- `first`: -999 to 999 - `step`: -50 to 50 - `many`: 0 to 50", () -> {
            RunmergeOffice o = new RunmergeOffice();
            due(1, () -> o.fill(0, -999, 0, 1));
            due(2, () -> o.fill(0, 999, 0, 1));
            due(4, () -> o.fill(0, 0, -50, 2));
            due(6, () -> o.fill(0, 0, 50, 2));
            due("-999 999 0 -50 0 50", () -> keysOf(o, 0));
            due(6, () -> o.fill(0, 0, 0, 0));
            due(56, () -> o.fill(0, 0, 1, 50));
            for (int first : new int[] {-1000, 1000, LOWEST, HIGHEST}) due(ARGUMENT, () -> o.fill(0, first, 0, 0));
            for (int step : new int[] {-51, 51, LOWEST, HIGHEST}) due(ARGUMENT, () -> o.fill(0, 0, step, 1));
            for (int many : new int[] {-1, 51, LOWEST, HIGHEST}) due(ARGUMENT, () -> o.fill(0, 0, 0, many));
            due(56, o::records);
        });
        test("Throws `IllegalArgumentException` if another parameter is out of range, or a key would be", () -> {
            RunmergeOffice o = new RunmergeOffice();
            due(2, () -> o.fill(0, 949, 50, 2));
            refused(ARGUMENT, o, () -> o.fill(0, 950, 50, 2));
            due(4, () -> o.fill(0, -949, -50, 2));
            refused(ARGUMENT, o, () -> o.fill(0, -950, -50, 2));
            due(50, () -> o.fill(1, -961, 40, 50));
            refused(ARGUMENT, o, () -> o.fill(2, -960, 40, 50));
            due(50, () -> o.fill(2, 961, -40, 50));
            refused(ARGUMENT, o, () -> o.fill(3, 960, -40, 50));
            // No key would come, or none behind the first.
            due(0, () -> o.fill(3, 999, 50, 0));
            due(0, () -> o.fill(3, -999, 50, 0));
            due(0, () -> o.fill(3, 999, -50, 0));
            due(0, () -> o.fill(3, -999, -50, 0));
            due(1, () -> o.fill(3, 999, 50, 1));
            due(2, () -> o.fill(3, -999, -50, 1));
        });
        test("Throws `IllegalStateException` if there would be more than 200 records, or more than 100 on this tape", () -> {
            RunmergeOffice o = new RunmergeOffice();
            o.fill(0, 0, 0, 50);
            o.fill(0, 0, 0, 20);
            refused(STATE, o, () -> o.fill(0, 0, 0, 31));
            due(100, () -> o.fill(0, 0, 0, 30));
            refused(STATE, o, () -> o.fill(0, 0, 0, 1));
            due(100, () -> o.fill(0, 0, 0, 0));
            o.fill(1, 0, 0, 50);
            o.fill(2, 0, 0, 20);
            refused(STATE, o, () -> o.fill(3, 0, 0, 31));
            due(30, () -> o.fill(3, 0, 0, 30));
            refused(STATE, o, () -> o.fill(4, 0, 0, 1));
            due(0, () -> o.fill(4, 0, 0, 0));
        });
    }

    /** The seed from which the first x is this one. */
    private static int seedFor(long x) {
        BigInteger all = BigInteger.ONE.shiftLeft(31);
        BigInteger inverse = BigInteger.valueOf(1103515245).modInverse(all);
        return BigInteger.valueOf(x - 12345).multiply(inverse).mod(all).intValue();
    }

    private static void scattering() {
        test("Makes records with drawn keys, and puts them at the end of a tape; each mark is 0.", () -> {
            RunmergeOffice o = new RunmergeOffice();
            o.put(0, -5, 9);
            due(3, () -> o.scatter(0, 2, 999, 1));
            due("-5 854 763", () -> keysOf(o, 0));
            due("9 0 0", () -> o.mark(0) + " " + o.mark(1) + " " + o.mark(2));
        });
        test("x (the seed at first) becomes x * 1103515245 + 12345 modulo 2^31", () -> {
            RunmergeOffice o = new RunmergeOffice();
            // x: 12345, 1406932606, 654583775, 1449466924
            o.scatter(0, 4, 999, 0);
            due("0 489 997 139", () -> keysOf(o, 0));
            // x: 1043980748, 288979989
            o.scatter(1, 2, 999, HIGHEST);
            due("944 413", () -> keysOf(o, 1));
        });
        test("the key is x / 65536 (rounded down) modulo range", () -> {
            RunmergeOffice o = new RunmergeOffice();
            long[] x = {0, 65535, 65536, 131071, 131072, 999L * 65536 - 1, 999L * 65536, (1L << 31) - 1};
            for (long one : x) o.scatter(0, 1, 999, seedFor(one));
            due("0 0 1 1 2 998 0 799", () -> keysOf(o, 0));
            o.scatter(1, 1, 2, seedFor(3 * 65536));
            o.scatter(1, 1, 1, seedFor((1L << 31) - 1));
            o.scatter(1, 1, 998, seedFor((1L << 31) - 1));
            due("1 0 831", () -> keysOf(o, 1));
        });
        test("- `many`: 0 to 50 - `range`: 1 to 999 - `seed`: 0 or more", () -> {
            RunmergeOffice o = new RunmergeOffice();
            due(0, () -> o.scatter(0, 0, 1, 0));
            due(1, () -> o.scatter(0, 1, 1, 0));
            due(51, () -> o.scatter(0, 50, 999, HIGHEST));
            for (int many : new int[] {-1, 51, LOWEST, HIGHEST}) due(ARGUMENT, () -> o.scatter(0, many, 1, 0));
            for (int range : new int[] {0, 1000, -1, LOWEST, HIGHEST}) due(ARGUMENT, () -> o.scatter(0, 1, range, 0));
            for (int seed : new int[] {-1, LOWEST}) due(ARGUMENT, () -> o.scatter(0, 1, 1, seed));
            for (int seed : new int[] {-1, LOWEST}) due(ARGUMENT, () -> o.scatter(0, 0, 1, seed));
            due(51, o::records);
        });
        test("Returns the number of records on this tape then. Throws `IndexOutOfBoundsException` if there is no such tape "
            + "Throws `IllegalArgumentException` if another parameter is out of range Throws `IllegalStateException` if "
            + "there would be more than 200 records, or more than 100 on this tape", () -> {
            RunmergeOffice o = new RunmergeOffice();
            due(50, () -> o.scatter(0, 50, 9, 1));
            due(70, () -> o.scatter(0, 20, 9, 1));
            refused(STATE, o, () -> o.scatter(0, 31, 9, 1));
            due(100, () -> o.scatter(0, 30, 9, 1));
            refused(STATE, o, () -> o.scatter(0, 1, 9, 1));
            due(100, () -> o.scatter(0, 0, 9, 1));
            o.scatter(1, 50, 9, 1);
            o.scatter(2, 20, 9, 1);
            refused(STATE, o, () -> o.scatter(3, 31, 9, 1));
            due(30, () -> o.scatter(3, 30, 9, 1));
            refused(STATE, o, () -> o.scatter(4, 1, 9, 1));
            due(0, () -> o.scatter(4, 0, 9, 1));
        });
    }

    // ---- looking at records and tapes ----

    private static void readingRecords() {
        test("Returns the number of records. Returns how many there are.", () -> {
            RunmergeOffice o = new RunmergeOffice();
            due(0, o::records);
            o.fill(0, 0, 0, 0);
            due(0, o::records);
            o.put(0, 0, 0);
            o.copy(0, 1);
            o.clear(0);
            o.clear(1);
            due(1, o::records);
            due(200, () -> full().records());
        });
        test("Returns the key of a record.", () -> {
            RunmergeOffice o = new RunmergeOffice();
            due(RANGE, () -> o.key(0));
            o.put(0, -7, 3);
            due(-7, () -> o.key(0));
            due(RANGE, () -> o.key(1));
            due(RANGE, () -> o.key(-1));
            RunmergeOffice f = full();
            due(99, () -> f.key(99));
            due(0, () -> f.key(199));
            due(RANGE, () -> f.key(200));
        });
        test("Returns the mark of a record.", () -> {
            RunmergeOffice o = new RunmergeOffice();
            due(RANGE, () -> o.mark(0));
            o.put(0, -7, 3);
            due(3, () -> o.mark(0));
            due(RANGE, () -> o.mark(1));
            due(RANGE, () -> o.mark(-1));
            RunmergeOffice f = full();
            due(0, () -> f.mark(199));
            due(RANGE, () -> f.mark(200));
        });
    }

    private static void readingTapes() {
        test("Returns the number of records on a tape. - `tape`: number of a tape", () -> {
            RunmergeOffice o = full();
            due("100 50 50 0", () -> o.length(0) + " " + o.length(1) + " " + o.length(2) + " " + o.length(7));
        });
        test("Throws `IndexOutOfBoundsException` if there is no such tape or place", () -> {
            RunmergeOffice o = full();
            due(0, () -> o.at(0, 0));
            due(99, () -> o.at(0, 99));
            due(RANGE, () -> o.at(0, 100));
            due(RANGE, () -> o.at(0, -1));
            due(149, () -> o.at(1, 49));
            due(RANGE, () -> o.at(1, 50));
            due(RANGE, () -> o.at(3, 0));
            due(RANGE, () -> o.at(8, 0));
            o.clear(1);
            due(RANGE, () -> o.at(1, 0));
        });
        test("Returns a digest of a tape: 7 at first, then, for each record in their order, 31 times as much, plus its number, modulo 2^32 (as an int).", () -> {
            RunmergeOffice o = full();
            due(7, () -> o.digest(7));
            o.fill(6, 0, 0, 0);
            due(7, () -> o.digest(6));
            for (int t = 0; t < 3; t++) {
                int tape = t;
                BigInteger sum = BigInteger.valueOf(7);
                for (int i = 0; i < o.length(t); i++)
                    sum = sum.multiply(BigInteger.valueOf(31)).add(BigInteger.valueOf(t == 0 ? i : 50 + 50 * t + i));
                due(sum.mod(BigInteger.ONE.shiftLeft(32)).intValue(), () -> o.digest(tape));
            }
            RunmergeOffice p = new RunmergeOffice();
            put(p, 0, 1, 2, 3);
            due(7 * 31 * 31 * 31 + 31 + 2, () -> p.digest(0));
            p.turn(0);
            due(((7 * 31 + 2) * 31 + 1) * 31, () -> p.digest(0));
            RunmergeOffice q = new RunmergeOffice();
            q.fill(0, 0, 0, 6);
            due((int) (7L * 887503681L + 1 * 923521L + 2 * 29791L + 3 * 961L + 4 * 31L + 5 - 4294967296L), () -> q.digest(0));
        });
    }

    private static void changingTapes() {
        test("Removes all records from a tape.", () -> {
            RunmergeOffice o = full();
            due(100, () -> o.clear(0));
            due(0, () -> o.clear(0));
            due(0, () -> o.length(0));
            due(50, () -> o.length(1));
            due(200, o::records);
            due(49, () -> o.key(49));
        });
        test("Makes the records of a tape those of another one, too. - `tape`: number of a tape - `to`: number of a tape, which may be the same one", () -> {
            RunmergeOffice o = full();
            due(100, () -> o.copy(0, 0));
            due(99, () -> o.at(0, 99));
            due(100, () -> o.copy(0, 1));
            due(true, () -> o.digest(0) == o.digest(1));
            due(50, () -> o.copy(2, 0));
            due(50, () -> o.length(2));
            due(0, () -> o.copy(3, 0));
            due(0, () -> o.length(0));
            due(0, () -> o.copy(3, 3));
            o.turn(2);
            o.copy(2, 4);
            o.turn(2);
            due(199, () -> o.at(4, 0));
            o.clear(2);
            due(199, () -> o.at(4, 0));
        });
        test("Turns the order of the records of a tape round.", () -> {
            RunmergeOffice o = new RunmergeOffice();
            due(0, () -> o.turn(0));
            put(o, 0, 5);
            due(1, () -> o.turn(0));
            due("0", () -> row(o, 0));
            put(o, 0, 6);
            due(2, () -> o.turn(0));
            due("1 0", () -> row(o, 0));
            put(o, 0, 7);
            due(3, () -> o.turn(0));
            due("2 0 1", () -> row(o, 0));
            RunmergeOffice f = full();
            due(100, () -> f.turn(0));
            due("99 50 49 0", () -> f.at(0, 0) + " " + f.at(0, 49) + " " + f.at(0, 50) + " " + f.at(0, 99));
        });
    }

    private static void shares() {
        test("Returns all keys added up and converted to double, divided by their number, converted to double; 0.0 without records.", () -> {
            RunmergeOffice o = new RunmergeOffice();
            due(0.0, () -> o.meanKey(0));
            put(o, 0, -1);
            due(-1.0, () -> o.meanKey(0));
            put(o, 0, 2, 1);
            due(2.0 / 3.0, () -> o.meanKey(0));
            put(o, 0, -2);
            due(0.0, () -> o.meanKey(0));
            put(o, 0, -999, 8);
            due(-991.0 / 6.0, () -> o.meanKey(0));
            o.combine(1, 1, 2, 0);
            due(0.0, () -> o.meanKey(2));
            RunmergeOffice f = new RunmergeOffice();
            f.fill(0, 999, 0, 50);
            f.fill(0, 999, 0, 49);
            f.put(0, 998, 0);
            due(99899.0 / 100.0, () -> f.meanKey(0));
        });
        test("Returns the share of the tapes that are in order, UP. Returns how many there are, converted to float, divided by 8.0f.", () -> {
            RunmergeOffice o = new RunmergeOffice();
            due(1.0f, o::sortedShare);
            put(o, 0, 3);
            due(1.0f, o::sortedShare);
            put(o, 0, 2);
            due(0.875f, o::sortedShare);
            for (int t = 1; t < 8; t++) {
                int tape = t;
                o.copy(0, t);
                due((7 - tape) / 8.0f, o::sortedShare);
            }
            o.setRuns(1, 0, 4);
            due(0.0f, o::sortedShare);
            o.turn(7);
            due(0.125f, o::sortedShare);
        });
    }
}
