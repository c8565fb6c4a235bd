/**
 * The edges of runs and merges (Terms 3 and 4, promises 15 to 22).
 *
 * Two sentences cannot be seen broken from outside: which of several shortest runs are merged, and in what place the
 * new run of a SHORTEST merge stands, change no number that a call tells; and no merge of POLYPHASE is of empty runs
 * alone, since the first row never has one.
 */
public final class RunEdgesTest extends Edges {
    public static void main(String[] args) {
        settings();
        askingForSettings();
        fullRuns();
        runsByReplacement();
        naturalRuns();
        emptyTapes();
        askingForRuns();
        balanced();
        shortest();
        polyphase();
        plans();
        leastMoves();
        end();
    }

    /** An office with NATURAL runs of these lengths on tape 0. */
    private static RunmergeOffice lengths(int... lengths) {
        RunmergeOffice o = new RunmergeOffice();
        for (int i = 0; i < lengths.length; i++) o.fill(0, 900 - 20 * i, 1, lengths[i]);
        o.setRuns(0, 2, 1);
        return o;
    }

    // ---- settings ----

    private static void settings() {
        test("The office has an order (UP at first), a way to make runs (REPLACEMENT at first), and a memory for so many records (4 at first).", () -> {
            RunmergeOffice o = with(5, 4, 3, 2, 1);
            due("0 1 4", () -> o.setting(0) + " " + o.setting(1) + " " + o.setting(2));
            due("2 3 4 5|1", () -> runsOf(o, 0));
            due(4, () -> new RunmergeOffice().setRuns(0, 0, 1));
        });
        test("in one of these ways (BALANCED at first), with so many ways (2 at first), which matter for BALANCED and POLYPHASE alone", () -> {
            RunmergeOffice o = singles(5);
            due("0 2", () -> o.setting(3) + " " + o.setting(4));
            due("3 13 4 0", () -> planOf(o, 0));
            due(2, () -> new RunmergeOffice().setMerge(0, 2));
            for (int ways = 2; ways <= 6; ways++) {
                o.setMerge(1, ways);
                due("4 12 4 0", () -> planOf(o, 0));
                o.sort(0, 1);
                due("4 3 2 1 0", () -> row(o, 1));
            }
            o.setMerge(0, 5);
            due("1 5 1 0", () -> planOf(o, 0));
            o.setMerge(2, 5);
            due("1 5 1 1", () -> planOf(o, 0));
        });
        test("Sets the order, the way to make runs, and the memory. - `order`: UP or DOWN - `way`: FULL, REPLACEMENT or NATURAL - `memory`: 1 to 50 Returns the memory before.", () -> {
            RunmergeOffice o = new RunmergeOffice();
            due(4, () -> o.setRuns(1, 2, 50));
            due("1 2 50 0 2", () -> settingsOf(o));
            due(50, () -> o.setRuns(0, 0, 1));
            due("0 0 1 0 2", () -> settingsOf(o));
            due(1, () -> o.setRuns(0, 1, 1));
            due("0 1 1 0 2", () -> settingsOf(o));
            for (int order : new int[] {-1, 2, LOWEST, HIGHEST}) due(ARGUMENT, () -> o.setRuns(order, 0, 7));
            for (int way : new int[] {-1, 3, LOWEST, HIGHEST}) due(ARGUMENT, () -> o.setRuns(1, way, 7));
            for (int memory : new int[] {0, 51, -1, LOWEST, HIGHEST}) due(ARGUMENT, () -> o.setRuns(1, 0, memory));
            due("0 1 1 0 2", () -> settingsOf(o));
        });
        test("Sets the way to merge, and the number of ways. - `way`: BALANCED, SHORTEST or POLYPHASE - `ways`: 2 to 6 Returns the number of ways before.", () -> {
            RunmergeOffice o = new RunmergeOffice();
            due(2, () -> o.setMerge(2, 6));
            due("0 1 4 2 6", () -> settingsOf(o));
            due(6, () -> o.setMerge(1, 2));
            due("0 1 4 1 2", () -> settingsOf(o));
            due(2, () -> o.setMerge(0, 5));
            due("0 1 4 0 5", () -> settingsOf(o));
            for (int way : new int[] {-1, 3, LOWEST, HIGHEST}) due(ARGUMENT, () -> o.setMerge(way, 2));
            for (int ways : new int[] {1, 7, 0, LOWEST, HIGHEST}) due(ARGUMENT, () -> o.setMerge(1, ways));
            due("0 1 4 0 5", () -> settingsOf(o));
        });
    }

    private static void askingForSettings() {
        test("0 for the order, 1 for the way to make runs, 2 for the memory, 3 for the way to merge, 4 for the number of ways", () -> {
            RunmergeOffice o = new RunmergeOffice();
            o.setRuns(1, 2, 9);
            o.setMerge(1, 3);
            due(1, () -> o.setting(0));
            due(2, () -> o.setting(1));
            due(9, () -> o.setting(2));
            due(1, () -> o.setting(3));
            due(3, () -> o.setting(4));
            for (int what : new int[] {-1, 5, LOWEST, HIGHEST}) due(ARGUMENT, () -> o.setting(what));
        });
    }

    // ---- runs ----

    private static void fullRuns() {
        test("of the first records that the memory holds, put in order, then of the next ones, and so on; the last run can be shorter.", () -> {
            RunmergeOffice o = with(6, 5, 4, 3, 2, 1);
            o.setRuns(0, 0, 3);
            due("4 5 6|1 2 3", () -> runsOf(o, 0));
            put(o, 0, 0);
            due("4 5 6|1 2 3|0", () -> runsOf(o, 0));
            o.setRuns(0, 0, 6);
            due("1 2 3 4 5 6|0", () -> runsOf(o, 0));
            o.setRuns(0, 0, 7);
            due("0 1 2 3 4 5 6", () -> runsOf(o, 0));
            o.setRuns(0, 0, 8);
            due("0 1 2 3 4 5 6", () -> runsOf(o, 0));
            // A run ends with the memory, also where the next record would go on in order.
            o.turn(0);
            o.setRuns(0, 0, 1);
            due("0|1|2|3|4|5|6", () -> runsOf(o, 0));
            o.setRuns(1, 0, 2);
            due("1 0|3 2|5 4|6", () -> runsOf(o, 0));
            RunmergeOffice f = full();
            f.setRuns(0, 0, 50);
            due("2: 50 50", () -> f.runs(0) + ": " + f.runLength(0, 0) + " " + f.runLength(0, 1));
            f.setRuns(1, 0, 49);
            due("3: 49 49 2", () -> f.runs(0) + ": " + f.runLength(0, 0) + " " + f.runLength(0, 1) + " " + f.runLength(0, 2));
            due("48 0 97 99", () -> f.runAt(0, 0, 0) + " " + f.runAt(0, 0, 48) + " " + f.runAt(0, 1, 0) + " " + f.runAt(0, 2, 0));
            f.setRuns(0, 0, 1);
            due(100, () -> f.runs(0));
        });
    }

    private static void runsByReplacement() {
        test("the first records that the memory holds come into it (all, if they are fewer); they are of the first run.", () -> {
            RunmergeOffice o = with(3, 2, 1);
            o.setRuns(0, 1, 50);
            due("1 2 3", () -> runsOf(o, 0));
            o.setRuns(0, 1, 4);
            due("1 2 3", () -> runsOf(o, 0));
            o.setRuns(0, 1, 3);
            due("1 2 3", () -> runsOf(o, 0));
            o.setRuns(0, 1, 2);
            due("2 3|1", () -> runsOf(o, 0));
            o.setRuns(0, 1, 1);
            due("3|2|1", () -> runsOf(o, 0));
            RunmergeOffice s = singles(100);
            s.setRuns(0, 1, 50);
            due("2: 50 50", () -> s.runs(0) + ": " + s.runLength(0, 0) + " " + s.runLength(0, 1));
            s.setRuns(0, 1, 49);
            due("3: 49 49 2", () -> s.runs(0) + ": " + s.runLength(0, 0) + " " + s.runLength(0, 1) + " " + s.runLength(0, 2));
            s.setRuns(0, 1, 1);
            due(100, () -> s.runs(0));
        });
        test("Again and again that record of the memory which is before all others of the same run goes to the end of this run, and the next record of the tape, if there is one, comes into the memory", () -> {
            RunmergeOffice o = with(5, 6, 7, 1, 2, 9, 0);
            o.setRuns(0, 1, 3);
            due("5 6 7 9|0 1 2", () -> runsOf(o, 0));
            o.setRuns(1, 1, 2);
            due("6 5 1|7 2 0|9", () -> runsOf(o, 0));
            // Records with the same key go by number, those with the least first.
            RunmergeOffice same = with(4, 4, 4);
            same.turn(0);
            same.setRuns(0, 1, 2);
            due("1 2|0", () -> same.runAt(0, 0, 0) + " " + same.runAt(0, 0, 1) + "|" + same.runAt(0, 1, 0));
            same.setRuns(1, 1, 3);
            due("0 1 2", () -> same.runAt(0, 0, 0) + " " + same.runAt(0, 0, 1) + " " + same.runAt(0, 0, 2));
        });
        test("it is of the same run, if it is not before the one that went just now, and otherwise of the next run.", () -> {
            RunmergeOffice o = with(1, 9, 5, 4);
            o.setRuns(0, 1, 2);
            due("1 5 9|4", () -> runsOf(o, 0));
            for (int order = 0; order < 2; order++) {
                RunmergeOffice same = with(5, 5);
                same.setRuns(order, 1, 1);
                due(1, () -> same.runs(0));
                same.turn(0);
                due(2, () -> same.runs(0));
                RunmergeOffice twice = with(5);
                twice.combine(0, 0, 0, 0);
                twice.setRuns(order, 1, 1);
                due(1, () -> twice.runs(0));
                due(2, () -> twice.runLength(0, 0));
            }
            RunmergeOffice next = with(5, 6);
            next.setRuns(0, 1, 1);
            due(1, () -> next.runs(0));
            next.setRuns(1, 1, 1);
            due(2, () -> next.runs(0));
        });
        test("When the memory has no record of a run any more, the next run is made.", () -> {
            RunmergeOffice o = with(9, 8, 1, 2, 3, 0);
            o.setRuns(0, 1, 2);
            due("8 9|1 2 3|0", () -> runsOf(o, 0));
            RunmergeOffice p = with(9, 8, 1, 0);
            p.setRuns(0, 1, 2);
            due("8 9|0 1", () -> runsOf(p, 0));
        });
    }

    private static void naturalRuns() {
        test("each run goes on as long as the next record of the tape is not before the latest one.", () -> {
            RunmergeOffice o = with(1, 2, 2, 1, 3);
            o.setRuns(0, 2, 4);
            due("1 2 2|1 3", () -> runsOf(o, 0));
            o.setRuns(1, 2, 4);
            due("1|2 2 1|3", () -> runsOf(o, 0));
            for (int order = 0; order < 2; order++) {
                RunmergeOffice same = with(5, 5);
                same.setRuns(order, 2, 1);
                due(1, () -> same.runs(0));
                same.turn(0);
                due(2, () -> same.runs(0));
                RunmergeOffice twice = with(5);
                twice.combine(0, 0, 0, 0);
                twice.setRuns(order, 2, 1);
                due(1, () -> twice.runs(0));
            }
            RunmergeOffice f = full();
            f.setRuns(0, 2, 1);
            due("1 100", () -> f.runs(0) + " " + f.runLength(0, 0));
            f.setRuns(1, 2, 1);
            due("100 1", () -> f.runs(0) + " " + f.runLength(0, 99));
        });
        test("The memory does not matter.", () -> {
            RunmergeOffice o = with(3, 1, 2, 4, 0);
            for (int memory : new int[] {1, 2, 5, 50}) {
                o.setRuns(0, 2, memory);
                due("3|1 2 4|0", () -> runsOf(o, 0));
            }
        });
    }

    private static void emptyTapes() {
        test("A tape without records makes no runs.", () -> {
            RunmergeOffice o = with(1);
            for (int way = 0; way < 3; way++) {
                o.setRuns(0, way, 1);
                due(0, () -> o.runs(7));
                due(RANGE, () -> o.runLength(7, 0));
                due(RANGE, () -> o.runAt(7, 0, 0));
                due(0, () -> o.begin(7, 6));
                due(1, () -> o.runs(0));
            }
        });
    }

    private static void askingForRuns() {
        test("Returns how many runs would be made of a tape, with the settings as they are.", () -> {
            RunmergeOffice o = with(4, 3, 2, 1);
            due(1, () -> o.runs(0));
            o.setRuns(0, 0, 3);
            due(2, () -> o.runs(0));
            due("0 1 2 3", () -> row(o, 0));
            due(STATE, () -> o.job(0));
        });
        test("Throws `IndexOutOfBoundsException` if there is no such tape or run", () -> {
            RunmergeOffice o = with(5, 4, 3, 2, 1);
            o.setRuns(0, 0, 2);
            due("2 2 1", () -> o.runLength(0, 0) + " " + o.runLength(0, 1) + " " + o.runLength(0, 2));
            for (int run : new int[] {-1, 3, LOWEST, HIGHEST}) due(RANGE, () -> o.runLength(0, run));
            RunmergeOffice s = singles(100);
            due(1, () -> s.runLength(0, 99));
            due(RANGE, () -> s.runLength(0, 100));
        });
        test("Throws `IndexOutOfBoundsException` if there is no such tape, run or place", () -> {
            RunmergeOffice o = with(5, 4, 3, 2, 1);
            o.setRuns(0, 0, 2);
            due("1 0 3 2 4", () -> o.runAt(0, 0, 0) + " " + o.runAt(0, 0, 1) + " " + o.runAt(0, 1, 0) + " " + o.runAt(0, 1, 1) + " " + o.runAt(0, 2, 0));
            for (int run : new int[] {-1, 3, LOWEST, HIGHEST}) due(RANGE, () -> o.runAt(0, run, 0));
            for (int place : new int[] {-1, 2, LOWEST, HIGHEST}) due(RANGE, () -> o.runAt(0, 0, place));
            due(RANGE, () -> o.runAt(0, 2, 1));
            RunmergeOffice s = singles(100);
            due(99, () -> s.runAt(0, 99, 0));
            due(RANGE, () -> s.runAt(0, 100, 0));
            RunmergeOffice f = full();
            due(99, () -> f.runAt(0, 0, 99));
            due(RANGE, () -> f.runAt(0, 0, 100));
        });
    }

    // ---- merges ----

    private static void balanced() {
        test("in each pass, as many runs as there are ways are merged from the first one on, then the next ones, and so on (fewer at the end)", () -> {
            RunmergeOffice o = lengths(4, 1, 2);
            due("2 12 2 0", () -> planOf(o, 0));
            RunmergeOffice five = singles(5);
            five.setMerge(0, 3);
            due("2 10 3 0", () -> planOf(five, 0));
            five.setMerge(0, 5);
            due("1 5 1 0", () -> planOf(five, 0));
            five.setMerge(0, 6);
            due("1 5 1 0", () -> planOf(five, 0));
            RunmergeOffice all = singles(100);
            all.setMerge(0, 6);
            due("3 300 21 0", () -> planOf(all, 0));
        });
        test("the new runs stand in this order", () -> {
            RunmergeOffice o = lengths(2, 1, 1, 1, 1, 1);
            due("3 19 5 0", () -> planOf(o, 0));
        });
        test("A single run that is left at the end of a pass stays as it is, and is not moved.", () -> {
            RunmergeOffice o = singles(3);
            due("2 5 2 0", () -> planOf(o, 0));
            RunmergeOffice five = singles(5);
            due("3 13 4 0", () -> planOf(five, 0));
            five.setMerge(0, 4);
            due("2 9 2 0", () -> planOf(five, 0));
            RunmergeOffice seven = singles(7);
            seven.setMerge(0, 6);
            due("2 13 2 0", () -> planOf(seven, 0));
            RunmergeOffice eight = singles(8);
            eight.setMerge(0, 6);
            due("2 16 3 0", () -> planOf(eight, 0));
            due("7 688 99 0", () -> planOf(singles(100), 0));
        });
    }

    private static void shortest() {
        test("in each pass the two shortest runs (of several with the same length those that stand first) are merged, and the new run stands behind all others.", () -> {
            RunmergeOffice o = lengths(5, 1, 1);
            o.setMerge(1, 2);
            due("2 9 2 0", () -> planOf(o, 0));
            RunmergeOffice p = lengths(2, 2, 3, 2);
            p.setMerge(1, 2);
            due("3 18 3 0", () -> planOf(p, 0));
            RunmergeOffice two = lengths(9, 1);
            two.setMerge(1, 6);
            due("1 10 1 0", () -> planOf(two, 0));
        });
        test("and the new run stands behind all others. So on, until there is one run.", () -> {
            RunmergeOffice s = singles(100);
            s.setMerge(1, 2);
            due("99 672 99 0", () -> planOf(s, 0));
            due(772, () -> s.sort(0, 1));
            due(true, () -> s.isSorted(1, 0));
        });
    }

    private static void polyphase() {
        test("at level 0 these are 1, 0, 0 and so on; at the next level the number of each input row but the last one is the number of the first one plus that of the next one, and the number of the last one is the number of the first one.", () -> {
            int[][] totals = {{1, 2, 3, 5, 8, 13, 21, 34, 55, 89, 144}, {1, 3, 5, 9, 17, 31, 57, 105},
                {1, 4, 7, 13, 25, 49, 94, 181}, {1, 5, 9, 17, 33, 65, 129}, {1, 6, 11, 21, 41, 81, 161}};
            for (int i = 0; i < totals.length; i++) {
                for (int j = 0; j < totals[i].length; j++) {
                    int level = j, all = totals[i][j];
                    RunmergeOffice o = singles(Math.min(100, all));
                    o.setMerge(2, i + 2);
                    due(level, () -> o.plan(0, 3));
                    o.begin(0, 1);
                    due(all, () -> o.job(2));
                    o.sort(0, 1);
                    due(true, () -> o.isSorted(1, 0));
                    due(Math.min(100, all), () -> o.length(1));
                }
            }
        });
        test("The first level at which the numbers add up to at least the number of runs is taken", () -> {
            int[][] edges = {{2, 89, 9, 10}, {3, 57, 6, 7}, {4, 94, 6, 7}, {5, 65, 5, 6}, {6, 81, 5, 6}, {2, 1, 0, 1}, {6, 1, 0, 1}, {6, 6, 1, 2}};
            for (int[] edge : edges) {
                RunmergeOffice at = singles(edge[1]), above = singles(edge[1] + 1);
                at.setMerge(2, edge[0]);
                above.setMerge(2, edge[0]);
                due(edge[2], () -> at.plan(0, 3));
                due(edge[3], () -> above.plan(0, 3));
            }
        });
        test("the runs come into the input rows in their order, the first row first, each up to its number, and what lacks in the end are empty runs (none, if there is no run).", () -> {
            RunmergeOffice four = singles(4);
            four.setMerge(2, 2);
            due("3 10 4 3", () -> planOf(four, 0));
            RunmergeOffice six = singles(6);
            six.setMerge(2, 2);
            due("4 19 7 4", () -> planOf(six, 0));
            due(6, () -> six.begin(0, 1));
            due(8, () -> six.job(2));
            six.setMerge(2, 3);
            due("3 13 4 3", () -> planOf(six, 0));
            due(0, () -> six.begin(7, 1));
            due(0, () -> six.job(2));
            due("0 0 0 0", () -> planOf(six, 7));
            RunmergeOffice one = singles(1);
            one.setMerge(2, 6);
            due(1, () -> one.begin(0, 1));
            due(1, () -> one.job(2));
        });
        test("A pass merges the first run of each row into one, and so on, as often as the last row has runs", () -> {
            RunmergeOffice five = singles(5);
            five.setMerge(2, 2);
            due("3 12 4 3", () -> planOf(five, 0));
            five.begin(0, 1);
            due(2, () -> five.work(2));
            due("1 0 3 1 2 9 0 0", () -> jobOf(five));
            due(1, () -> five.work(1));
            due("1 0 2 2 3 12 0 0", () -> jobOf(five));
            due(1, () -> five.work(9));
            due("1 1 1 3 4 17 0 0", () -> jobOf(five));
        });
        test("the new runs are a row of their own, in the order in which they were made, which becomes the first one; the last row, which has no runs any more, is left out, and the others keep their order behind the new one.", () -> {
            RunmergeOffice o = lengths(3, 1, 2, 1, 1, 1, 1, 1, 1);
            o.setMerge(2, 3);
            due("3 28 4 3", () -> planOf(o, 0));
            RunmergeOffice p = lengths(1, 1, 4, 1, 1, 1, 2, 1, 1);
            p.setMerge(2, 3);
            // 3 + 3, then 3 + 4 + 2, then all 13
            due("3 28 4 3", () -> planOf(p, 0));
            RunmergeOffice q = lengths(1, 5, 1, 1, 1, 1, 1, 1, 1);
            q.setMerge(2, 3);
            // 3 + 7, then 3 + 1 + 1, then all 13
            due("3 28 4 3", () -> planOf(q, 0));
        });
    }

    private static void plans() {
        test("If there is one run, or none, no pass is made.", () -> {
            RunmergeOffice o = with(1, 2, 3);
            for (int way = 0; way < 3; way++) {
                for (int ways = 2; ways <= 6; ways += 4) {
                    o.setMerge(way, ways);
                    due("0 0 0 0", () -> planOf(o, 0));
                    due("0 0 0 0", () -> planOf(o, 1));
                }
            }
            put(o, 2, 2, 1);
            o.setRuns(0, 2, 1);
            for (int way = 0; way < 3; way++) {
                String want = way == 2 ? "1 2 1 1" : "1 2 1 0";
                o.setMerge(way, 6 - way);
                due(want, () -> planOf(o, 2));
            }
        });
        test("0 for the passes, 1 for the moves of all merges, 2 for the number of merges (also of empty runs alone), 3 for the level of POLYPHASE (0 for the other ways)", () -> {
            RunmergeOffice o = singles(7);
            o.setMerge(2, 2);
            due(4, () -> o.plan(0, 0));
            due(22, () -> o.plan(0, 1));
            due(7, () -> o.plan(0, 2));
            due(4, () -> o.plan(0, 3));
            o.setMerge(0, 2);
            due(0, () -> o.plan(0, 3));
            o.setMerge(1, 2);
            due(0, () -> o.plan(0, 3));
            for (int what : new int[] {-1, 4, LOWEST, HIGHEST}) due(ARGUMENT, () -> o.plan(0, what));
            for (int what : new int[] {-1, 4, LOWEST, HIGHEST}) due(ARGUMENT, () -> o.plan(5, what));
        });
    }

    private static void leastMoves() {
        test("Returns the fewest moves by which the runs that would be made of a tape, with the settings as they are, can be merged two at a time, in whatever order.", () -> {
            due(0, () -> lengths().leastMoves(0));
            due(0, () -> lengths(9).leastMoves(0));
            due(10, () -> lengths(9, 1).leastMoves(0));
            due(9, () -> lengths(5, 1, 1).leastMoves(0));
            due(19, () -> lengths(4, 3, 2, 1).leastMoves(0));
            due(18, () -> lengths(2, 2, 3, 2).leastMoves(0));
            RunmergeOffice s = singles(100);
            for (int i = 0; i < 15; i++) {
                s.setMerge(i % 3, 2 + i / 3);
                due(672, () -> s.leastMoves(0));
            }
            s.setRuns(1, 2, 1);
            due(0, () -> s.leastMoves(0));
            s.setRuns(0, 0, 50);
            due(100, () -> s.leastMoves(0));
        });
    }
}
