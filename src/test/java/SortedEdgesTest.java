/** The edges of sorted tapes and of what is checked (promises 28 to 34 and 42). */
public final class SortedEdgesTest extends Edges {
    public static void main(String[] args) {
        uniting();
        choosing();
        combining();
        thinning();
        finding();
        nearKeys();
        counting();
        checking();
        end();
    }

    private static String combined(RunmergeOffice o, int tape, int other, int how) {
        o.combine(tape, other, 7, how);
        return row(o, 7);
    }

    private static void uniting() {
        test("UNITE: the records of both, in order, each one as often as on both together.", () -> {
            RunmergeOffice o = new RunmergeOffice();
            put(o, 0, 1, 3, 3);
            put(o, 1, 3, 2);
            o.sort(1, 1);
            due("0 4 1 2 3", () -> combined(o, 0, 1, 0));
            due("0 4 1 2 3", () -> combined(o, 1, 0, 0));
            due("0 0 1 1 2 2", () -> combined(o, 0, 0, 0));
            due("0 0 0 1 1 1 2 2 2", () -> combined(o, 0, 7, 0));
            due("0 1 2", () -> combined(o, 0, 5, 0));
            due("0 1 2", () -> combined(o, 5, 0, 0));
            due("", () -> combined(o, 5, 6, 0));
            // The same keys on both: the lesser number stands first, whichever tape it comes from.
            RunmergeOffice p = new RunmergeOffice();
            put(p, 1, 4, 4);
            put(p, 0, 4, 4);
            due("0 1 2 3", () -> combined(p, 0, 1, 0));
            due("0 1 2 3", () -> combined(p, 1, 0, 0));
            due(true, () -> p.isSorted(7, 0));
        });
    }

    private static void choosing() {
        test("COMMON: those records of the first one whose key a record of the second one has.", () -> {
            RunmergeOffice o = new RunmergeOffice();
            put(o, 0, -5, 1, 1, 4, 9);
            put(o, 1, -5, 1, 3, 9, 9);
            due("0 1 2 4", () -> combined(o, 0, 1, 1));
            due("5 6 8 9", () -> combined(o, 1, 0, 1));
            due("0 1 2 3 4", () -> combined(o, 0, 0, 1));
            due("", () -> combined(o, 0, 6, 1));
            due("", () -> combined(o, 6, 0, 1));
            o.combine(0, 0, 2, 0);
            due("0 0 1 1 2 2 4 4", () -> combined(o, 2, 1, 1));
        });
        test("WITHOUT: those whose key none of them has.", () -> {
            RunmergeOffice o = new RunmergeOffice();
            put(o, 0, -5, 1, 1, 4, 9);
            put(o, 1, -5, 1, 3, 9, 9);
            due("3", () -> combined(o, 0, 1, 2));
            due("7", () -> combined(o, 1, 0, 2));
            due("", () -> combined(o, 0, 0, 2));
            due("0 1 2 3 4", () -> combined(o, 0, 6, 2));
            due("", () -> combined(o, 6, 0, 2));
            put(o, 2, 2, 8);
            o.combine(0, 0, 3, 0);
            due("0 0 1 1 2 2 3 3 4 4", () -> combined(o, 3, 2, 2));
        });
    }

    private static void combining() {
        test("- `other`: number of a tape, which may be the same one - `to`: number of a tape, which may be one of both", () -> {
            RunmergeOffice o = new RunmergeOffice();
            put(o, 0, 1, 2, 4);
            put(o, 1, 2, 3, 4);
            o.copy(0, 2);
            due(6, () -> o.combine(2, 1, 2, 0));
            due("0 1 3 4 2 5", () -> row(o, 2));
            o.copy(0, 2);
            due(6, () -> o.combine(1, 2, 2, 0));
            due("0 1 3 4 2 5", () -> row(o, 2));
            o.copy(0, 2);
            due(2, () -> o.combine(2, 1, 2, 1));
            due("1 2", () -> row(o, 2));
            o.copy(0, 2);
            due(1, () -> o.combine(1, 2, 2, 2));
            due("4", () -> row(o, 2));
            o.copy(0, 2);
            due(6, () -> o.combine(2, 2, 2, 0));
            due("0 0 1 1 2 2", () -> row(o, 2));
            due(6, () -> o.combine(2, 2, 2, 1));
            due("0 0 1 1 2 2", () -> row(o, 2));
            due(0, () -> o.combine(2, 2, 2, 2));
            due("", () -> row(o, 2));
            due("0 1 2|3 4 5", () -> row(o, 0) + "|" + row(o, 1));
        });
        test("Throws `IllegalArgumentException` if how is out of range", () -> {
            RunmergeOffice o = with(2, 1);
            for (int how : new int[] {-1, 3, LOWEST, HIGHEST}) refused(ARGUMENT, o, () -> o.combine(1, 2, 3, how));
            refused(ARGUMENT, o, () -> o.combine(0, 0, 3, 3));
            for (int i = 0; i < 3; i++) {
                int how = i;
                due(0, () -> o.combine(1, 2, 3, how));
            }
        });
        test("Throws `IllegalStateException` if one of both is not in order, UP, or the third tape would have more than 100 records", () -> {
            RunmergeOffice o = new RunmergeOffice();
            put(o, 0, 2, 1);
            put(o, 1, 5, 5);
            o.turn(1);
            put(o, 2, 1, 2);
            for (int i = 0; i < 3; i++) {
                int how = i;
                refused(STATE, o, () -> o.combine(0, 2, 3, how));
                refused(STATE, o, () -> o.combine(2, 0, 3, how));
                refused(STATE, o, () -> o.combine(1, 3, 2, how));
                refused(STATE, o, () -> o.combine(3, 1, 2, how));
            }
            RunmergeOffice f = full();
            due(100, () -> f.combine(1, 2, 7, 0));
            refused(STATE, f, () -> f.combine(0, 1, 7, 0));
            refused(STATE, f, () -> f.combine(0, 0, 0, 0));
            due(99, () -> f.combine(0, 7, 6, 2));
            due(1, () -> f.combine(0, 7, 6, 1));
            due(100, () -> f.combine(7, 0, 6, 1));
            RunmergeOffice g = new RunmergeOffice();
            g.fill(0, 0, 0, 50);
            g.put(1, 0, 0);
            g.combine(0, 1, 2, 0);
            due(51, () -> g.length(2));
            refused(STATE, g, () -> g.combine(2, 0, 3, 0));
            refused(STATE, g, () -> g.combine(2, 2, 2, 0));
            due(52, () -> g.combine(2, 1, 3, 0));
            due(100, () -> g.combine(0, 0, 3, 0));
            due(100, () -> g.combine(3, 4, 3, 0));
            refused(STATE, g, () -> g.combine(1, 3, 3, 0));
            due(0, () -> g.combine(3, 1, 4, 2));
            due(100, () -> g.combine(3, 1, 4, 1));
        });
    }

    private static void thinning() {
        test("Removes records from a tape: of those with the same key that follow one another at once, all but the first one, or all but the last one.", () -> {
            RunmergeOffice o = with(1, 1, 2, 1, 1, 1, 3, 3);
            for (int i = 1; i < 5; i++) o.copy(0, i);
            due(4, () -> o.thin(1, false));
            due("0 2 3 6", () -> row(o, 1));
            due(4, () -> o.thin(2, true));
            due("1 2 5 7", () -> row(o, 2));
            due(0, () -> o.thin(1, true));
            due(0, () -> o.thin(2, false));
            due(0, () -> o.thin(7, true));
            due(0, () -> o.thin(7, false));
            o.turn(3);
            due(4, () -> o.thin(3, false));
            due("7 5 2 1", () -> row(o, 3));
            RunmergeOffice one = with(5);
            due(0, () -> one.thin(0, true));
            due(0, () -> one.thin(0, false));
            one.combine(0, 0, 0, 0);
            one.copy(0, 1);
            due(1, () -> one.thin(0, true));
            due(1, () -> one.thin(1, false));
            due("0|0", () -> row(one, 0) + "|" + row(one, 1));
            RunmergeOffice f = full();
            due(0, () -> f.thin(0, true));
            due(100, () -> f.length(0));
            f.combine(1, 2, 0, 0);
            f.copy(0, 3);
            due(99, () -> f.thin(0, false));
            due("100", () -> row(f, 0));
            due(99, () -> f.thin(3, true));
            due("199", () -> row(f, 3));
        });
    }

    /** Tapes: 0 in order, 1 not, 2 with the same keys in the wrong order of numbers, 3 in order DOWN, 7 empty. */
    private static RunmergeOffice keyed() {
        RunmergeOffice o = with(-999, 4, 4, 7, 999);
        put(o, 1, 4, 7, 5);
        put(o, 2, 4, 4);
        o.turn(2);
        put(o, 3, 4, 4, 2);
        return o;
    }

    private static void finding() {
        test("Looks up the first record with a key. - `tape`: number of a tape - `key`: any number Returns its place; NONE if there is none.", () -> {
            RunmergeOffice o = keyed();
            due(0, () -> o.find(0, -999));
            due(1, () -> o.find(0, 4));
            due(3, () -> o.find(0, 7));
            due(4, () -> o.find(0, 999));
            for (int key : new int[] {-1000, -998, 3, 5, 8, 998, 1000, LOWEST, HIGHEST}) due(NONE, () -> o.find(0, key));
            for (int key : new int[] {0, -1, LOWEST, HIGHEST}) due(NONE, () -> o.find(7, key));
            RunmergeOffice f = full();
            due(99, () -> f.find(0, 99));
            due(0, () -> f.find(0, 0));
            due(0, () -> f.find(1, 0));
        });
        test("Throws `IndexOutOfBoundsException` if there is no such tape Throws `IllegalStateException` if the tape is not in order, UP", () -> {
            for (int i = 1; i < 4; i++) {
                int tape = i;
                RunmergeOffice o = keyed();
                refused(STATE, o, () -> o.find(tape, 4));
                refused(STATE, o, () -> o.find(tape, 9));
                refused(STATE, o, () -> o.floor(tape, 4));
                refused(STATE, o, () -> o.ceiling(tape, 4));
                RunmergeOffice p = keyed();
                refused(STATE, p, () -> p.between(tape, 4, 4));
                refused(STATE, p, () -> p.between(tape, 9, 1));
                refused(STATE, p, () -> p.keys(tape));
                due(RANGE, () -> p.keys(8));
            }
        });
    }

    private static void nearKeys() {
        test("Returns the greatest key of a tape that is not greater than a number. - `tape`: number of a tape - `key`: any number", () -> {
            RunmergeOffice o = keyed();
            due(-999, () -> o.floor(0, -999));
            due(-999, () -> o.floor(0, 3));
            due(4, () -> o.floor(0, 4));
            due(4, () -> o.floor(0, 6));
            due(7, () -> o.floor(0, 7));
            due(7, () -> o.floor(0, 998));
            due(999, () -> o.floor(0, 999));
            due(999, () -> o.floor(0, HIGHEST));
        });
        test("Returns the least key of a tape that is not less than a number. - `tape`: number of a tape - `key`: any number", () -> {
            RunmergeOffice o = keyed();
            due(-999, () -> o.ceiling(0, LOWEST));
            due(-999, () -> o.ceiling(0, -999));
            due(4, () -> o.ceiling(0, -998));
            due(4, () -> o.ceiling(0, 4));
            due(7, () -> o.ceiling(0, 5));
            due(7, () -> o.ceiling(0, 7));
            due(999, () -> o.ceiling(0, 8));
            due(999, () -> o.ceiling(0, 999));
        });
        test("Throws `NoSuchElementException` if there is none", () -> {
            RunmergeOffice o = keyed();
            due(ELEMENT, () -> o.floor(0, -1000));
            due(ELEMENT, () -> o.floor(0, LOWEST));
            due(ELEMENT, () -> o.ceiling(0, 1000));
            due(ELEMENT, () -> o.ceiling(0, HIGHEST));
            for (int key : new int[] {0, NONE, LOWEST, HIGHEST}) {
                due(ELEMENT, () -> o.floor(7, key));
                due(ELEMENT, () -> o.ceiling(7, key));
            }
        });
    }

    private static void counting() {
        test("Counts the records of a tape whose keys are within two numbers. - `tape`: number of a tape - `from`: any number, the least key that counts - `to`: any number, the greatest key that counts", () -> {
            RunmergeOffice o = keyed();
            due(5, () -> o.between(0, LOWEST, HIGHEST));
            due(5, () -> o.between(0, -999, 999));
            due(4, () -> o.between(0, -998, 999));
            due(4, () -> o.between(0, -999, 998));
            due(2, () -> o.between(0, 4, 4));
            due(3, () -> o.between(0, 4, 7));
            due(2, () -> o.between(0, 4, 6));
            due(1, () -> o.between(0, 5, 7));
            due(0, () -> o.between(0, 5, 6));
            due(0, () -> o.between(0, 7, 4));
            due(0, () -> o.between(0, 5, 4));
            due(0, () -> o.between(0, 6, 5));
            due(0, () -> o.between(0, HIGHEST, LOWEST));
            due(0, () -> o.between(0, 1000, HIGHEST));
            due(0, () -> o.between(0, LOWEST, -1000));
            due(0, () -> o.between(0, HIGHEST, HIGHEST));
            due(0, () -> o.between(7, LOWEST, HIGHEST));
            due(100, () -> full().between(0, 0, 99));
            due(50, () -> full().between(1, 0, 0));
        });
        test("Counts the different keys of a tape.", () -> {
            RunmergeOffice o = keyed();
            due(4, () -> o.keys(0));
            due(0, () -> o.keys(7));
            due(100, () -> full().keys(0));
            due(1, () -> full().keys(1));
            due(1, () -> with(0).keys(0));
            due(2, () -> with(-1, 0, 0).keys(0));
        });
    }

    private static void checking() {
        test("Returns how many of these checks fail; always 0.", () -> {
            for (int tape = 0; tape < 4; tape++) {
                RunmergeOffice o = new RunmergeOffice();
                o.scatter(1, 1, 9, 1);
                o.scatter(2, 37, 9, 2);
                o.fill(3, 999, -1, 50);
                o.fill(3, 900, -1, 50);
                for (int i = 0; i < 100; i++) {
                    int of = tape;
                    o.setRuns(i % 2, i % 3, 1 + i / 2);
                    o.setMerge(i % 3, 2 + i % 5);
                    due(0, () -> o.errors(of));
                }
            }
            RunmergeOffice p = with(3, 2, 1, 2, 3);
            p.combine(1, 1, 1, 0);
            p.sort(0, 1);
            p.combine(1, 1, 2, 0);
            due(0, () -> p.errors(2));
            p.turn(2);
            refused(RANGE, p, () -> p.errors(8));
            String before = state(p);
            due(0, () -> p.errors(2));
            due(before, () -> state(p));
        });
    }
}
