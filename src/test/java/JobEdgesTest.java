/** The edges of jobs (Terms 5, promises 23 to 27). */
public final class JobEdgesTest extends Edges {
    public static void main(String[] args) {
        beginning();
        settingsOfJob();
        passes();
        tearing();
        ending();
        oneJob();
        tapesMeanwhile();
        working();
        telling();
        sorting();
        end();
    }

    /** An office with a job of so many runs of one record each from tape 0 into tape 1. */
    private static RunmergeOffice job(int runs, int way, int ways) {
        RunmergeOffice o = singles(runs);
        o.setMerge(way, ways);
        o.begin(0, 1);
        return o;
    }

    private static void beginning() {
        test("As it begins, its runs are made, and each record is moved once by that.", () -> {
            due("1 0 5 0 0 5 0 0", () -> jobOf(job(5, 0, 2)));
            due("1 0 100 0 0 100 0 0", () -> jobOf(job(100, 1, 2)));
            due("1 1 1 0 0 1 0 0", () -> jobOf(job(1, 0, 2)));
            due("1 1 0 0 0 0 0 0", () -> jobOf(job(0, 0, 2)));
        });
        test("Returns the number of its runs, empty ones left out.", () -> {
            RunmergeOffice o = singles(4);
            o.setMerge(2, 6);
            due(4, () -> o.begin(0, 1));
            due(6, () -> o.job(2));
            due(0, () -> o.begin(5, 1));
            o.setRuns(1, 2, 1);
            due(1, () -> o.begin(0, 1));
            RunmergeOffice s = singles(100);
            s.setMerge(2, 4);
            due(100, () -> s.begin(0, 1));
            due(181, () -> s.job(2));
        });
        test("A job sorts a tape into another one, or into itself", () -> {
            RunmergeOffice o = singles(3);
            o.begin(0, 0);
            due(0, () -> o.job(0));
            due("0 1 2", () -> row(o, 0));
            due(2, () -> o.work(2));
            due("2 1 0", () -> row(o, 0));
            o.begin(0, 7);
            due("2 1 0", () -> row(o, 7));
            due("2 1 0", () -> row(o, 0));
        });
    }

    private static void settingsOfJob() {
        test("with the order, ways and memory as they are when it begins", () -> {
            RunmergeOffice o = with(6, 5, 4, 3, 2, 1);
            o.setRuns(0, 0, 2);
            o.setMerge(0, 3);
            due(3, () -> o.begin(0, 1));
            o.setRuns(1, 2, 1);
            o.setMerge(2, 2);
            due(1, () -> o.work(200));
            due("1 1 1 1 1 12 0 0", () -> jobOf(o));
            due("1 2 3 4 5 6", () -> keysOf(o, 1));
            o.begin(0, 1);
            due("6 5 4 3 2 1", () -> keysOf(o, 1));
            RunmergeOffice p = job(7, 2, 2);
            p.setMerge(0, 6);
            due(7, () -> p.work(200));
            due("1 1 1 4 7 29 0 0", () -> jobOf(p));
            RunmergeOffice q = job(4, 1, 2);
            q.work(1);
            q.setMerge(0, 6);
            q.setRuns(1, 1, 9);
            due(2, () -> q.work(200));
            due("3 2 1 0", () -> row(q, 1));
        });
    }

    private static void passes() {
        test("When one pass is over, its runs are kept, and the next pass begins.", () -> {
            RunmergeOffice o = job(4, 0, 2);
            o.work(1);
            due("1 0 3 0 1 6 0 0", () -> jobOf(o));
            o.work(1);
            due("1 0 2 1 2 8 0 0", () -> jobOf(o));
            due(0, o::tear);
            due("1 0 2 1 2 8 0 1", () -> jobOf(o));
            due(1, () -> o.work(200));
            due("3 2 1 0", () -> row(o, 1));
            RunmergeOffice five = job(5, 0, 2);
            five.work(2);
            due("1 0 3 1 2 9 0 0", () -> jobOf(five));
            due(0, five::tear);
            RunmergeOffice shortest = job(3, 1, 2);
            shortest.work(1);
            due("1 0 2 1 1 5 0 0", () -> jobOf(shortest));
            due(0, shortest::tear);
            RunmergeOffice poly = job(4, 2, 2);
            poly.work(2);
            due("1 0 3 1 2 7 0 0", () -> jobOf(poly));
            due(0, poly::tear);
            due("1 0 3 1 2 7 0 1", () -> jobOf(poly));
        });
    }

    private static void tearing() {
        test("If the job is torn, all merges that were done in the pass under way are lost: their moves stay counted, and count as lost, too, and the pass begins anew.", () -> {
            RunmergeOffice o = job(7, 0, 2);
            o.work(2);
            due("1 0 5 0 2 11 0 0", () -> jobOf(o));
            due(4, o::tear);
            due("1 0 7 0 2 11 4 1", () -> jobOf(o));
            o.work(1);
            due("1 0 6 0 3 13 4 1", () -> jobOf(o));
            due(2, o::tear);
            due("1 0 7 0 3 13 6 2", () -> jobOf(o));
            due(3, () -> o.work(3));
            due("1 0 4 1 6 19 6 2", () -> jobOf(o));
            due(1, () -> o.work(1));
            due("1 0 3 1 7 23 6 2", () -> jobOf(o));
            due(4, o::tear);
            due("1 0 4 1 7 23 10 3", () -> jobOf(o));
            due(3, () -> o.work(200));
            due("1 1 1 3 10 37 10 3", () -> jobOf(o));
            due("6 5 4 3 2 1 0", () -> row(o, 1));
            RunmergeOffice poly = job(6, 2, 2);
            poly.work(2);
            due("1 0 6 0 2 9 0 0", () -> jobOf(poly));
            due(3, poly::tear);
            due("1 0 8 0 2 9 3 1", () -> jobOf(poly));
            poly.work(4);
            due("1 0 4 1 6 16 3 1", () -> jobOf(poly));
            due(3, poly::tear);
            due("1 0 5 1 6 16 6 2", () -> jobOf(poly));
            poly.work(200);
            due("1 1 1 4 10 31 6 2", () -> jobOf(poly));
            due("5 4 3 2 1 0", () -> row(poly, 1));
        });
        test("Returns how many moves are lost by that. Throws `IllegalStateException` if there is no job, or it is over", () -> {
            RunmergeOffice none = singles(3);
            refused(STATE, none, none::tear);
            RunmergeOffice o = job(4, 0, 2);
            due(0, o::tear);
            due(0, o::tear);
            due("1 0 4 0 0 4 0 2", () -> jobOf(o));
            o.work(1);
            due(2, o::tear);
            due(0, o::tear);
            due("1 0 4 0 1 6 2 4", () -> jobOf(o));
            o.work(3);
            refused(STATE, o, o::tear);
            due("1 1 1 2 4 14 2 4", () -> jobOf(o));
            RunmergeOffice one = job(1, 0, 2);
            refused(STATE, one, one::tear);
            RunmergeOffice empty = job(0, 2, 2);
            refused(STATE, empty, empty::tear);
        });
    }

    private static void ending() {
        test("When one run is there (or none, if the tape has no records), the job is over: the records of the run are the records of the other tape from then on.", () -> {
            for (int way = 0; way < 3; way++) {
                RunmergeOffice one = new RunmergeOffice();
                one.setMerge(way, 2);
                put(one, 0, 3, 2);
                put(one, 1, 9);
                due(1, () -> one.begin(0, 1));
                due("1 1 1 0 0 2 0 0", () -> jobOf(one));
                due("1 0", () -> row(one, 1));
                refused(STATE, one, () -> one.work(1));
                due(0, () -> one.begin(7, 1));
                due("1 1 0 0 0 0 0 0", () -> jobOf(one));
                due(0, () -> one.length(1));
                refused(STATE, one, () -> one.work(1));
            }
            RunmergeOffice o = job(3, 0, 2);
            o.put(1, 9, 9);
            o.work(1);
            due("3", () -> row(o, 1));
            due(0, () -> o.job(1));
            o.work(1);
            due(1, () -> o.job(1));
            due("2 1 0", () -> row(o, 1));
            // From then on it is a tape like others: what is done to it stays.
            o.clear(1);
            due(STATE, () -> o.work(1));
            due(0, () -> o.length(1));
            due("1 1 1 2 2 8 0 0", () -> jobOf(o));
        });
    }

    private static void oneJob() {
        test("There is at most one job; another one takes its place.", () -> {
            RunmergeOffice o = job(4, 0, 2);
            o.work(1);
            o.tear();
            o.work(1);
            due(4, () -> o.begin(0, 2));
            due("2 0 4 0 0 4 0 0", () -> jobOf(o));
            due(0, o::tear);
            due("2 0 4 0 0 4 0 1", () -> jobOf(o));
            due(3, () -> o.work(200));
            due(0, () -> o.length(1));
            due("3 2 1 0", () -> row(o, 2));
            due(4, () -> o.begin(0, 3));
            due("3 0 4 0 0 4 0 0", () -> jobOf(o));
            due(0, () -> o.begin(7, 3));
            due("3 1 0 0 0 0 0 0", () -> jobOf(o));
            due(RANGE, () -> o.begin(0, 8));
            due("3 1 0 0 0 0 0 0", () -> jobOf(o));
        });
    }

    private static void tapesMeanwhile() {
        test("The tape from which it was made can change meanwhile; that does not matter to it.", () -> {
            RunmergeOffice o = job(5, 0, 2);
            o.clear(0);
            o.work(1);
            o.put(0, -999, 0);
            o.tear();
            o.fill(0, 1, 1, 50);
            o.work(200);
            due("4 3 2 1 0", () -> row(o, 1));
            due(51, () -> o.length(0));
            RunmergeOffice self = singles(3);
            self.begin(0, 0);
            self.turn(0);
            self.put(0, 7, 7);
            self.work(200);
            due("2 1 0", () -> row(self, 0));
        });
    }

    private static void working() {
        test("Lets the job do merges, until they are done or it is over. - `merges`: 1 to 200 Returns how many it did.", () -> {
            RunmergeOffice o = job(8, 0, 2);
            due(1, () -> o.work(1));
            due(5, () -> o.work(5));
            due(1, () -> o.work(2));
            due("1 1 1 3 7 32 0 0", () -> jobOf(o));
            due(1, () -> job(2, 0, 2).work(1));
            due(7, () -> job(8, 1, 2).work(7));
            due(99, () -> job(100, 1, 2).work(200));
            due(99, () -> job(100, 0, 2).work(99));
            due(60, () -> job(100, 2, 4).work(200));
            RunmergeOffice p = job(8, 0, 2);
            for (int merges : new int[] {0, 201, -1, LOWEST, HIGHEST}) refused(ARGUMENT, p, () -> p.work(merges));
        });
        test("Throws `IllegalArgumentException` if merges is out of range Throws `IllegalStateException` if there is no job, or it is over", () -> {
            RunmergeOffice none = singles(3);
            refused(ARGUMENT, none, () -> none.work(0));
            refused(STATE, none, () -> none.work(1));
            refused(STATE, none, () -> none.work(200));
            RunmergeOffice over = job(2, 0, 2);
            over.work(1);
            refused(ARGUMENT, over, () -> over.work(201));
            refused(STATE, over, () -> over.work(1));
            RunmergeOffice begun = job(1, 0, 2);
            refused(STATE, begun, () -> begun.work(1));
        });
    }

    private static void telling() {
        test("2 for its runs as they are (those that the pass under way has not merged yet, and those that it has made; empty ones, too)", () -> {
            RunmergeOffice o = job(5, 0, 3);
            due(5, () -> o.job(2));
            o.work(1);
            due(3, () -> o.job(2));
            o.work(1);
            due(2, () -> o.job(2));
            o.work(1);
            due(1, () -> o.job(2));
            RunmergeOffice poly = job(6, 2, 3);
            due(9, () -> poly.job(2));
            poly.work(1);
            due(7, () -> poly.job(2));
            poly.work(1);
            due(5, () -> poly.job(2));
            poly.work(1);
            due(3, () -> poly.job(2));
            poly.work(1);
            due(1, () -> poly.job(2));
            RunmergeOffice all = job(100, 1, 2);
            for (int i = 100; i > 1; i--) {
                int runs = i;
                due(runs, () -> all.job(2));
                all.work(1);
            }
            due(1, () -> all.job(2));
        });
        test("3 for the passes that are over, 4 for its merges (also lost ones), 5 for its moves (also lost ones, and those by which its runs were made), 6 for the lost ones of them, 7 for how often it was torn", () -> {
            RunmergeOffice o = job(6, 0, 2);
            o.work(2);
            o.tear();
            due("1 0 6 0 2 10 4 1", () -> jobOf(o));
            o.work(3);
            due("1 0 3 1 5 16 4 1", () -> jobOf(o));
            o.work(1);
            due("1 0 2 2 6 20 4 1", () -> jobOf(o));
            o.work(1);
            due("1 1 1 3 7 26 4 1", () -> jobOf(o));
        });
        test("Throws `IllegalArgumentException` if what is out of range Throws `IllegalStateException` if there is no job", () -> {
            RunmergeOffice o = singles(2);
            for (int what : new int[] {-1, 8, LOWEST, HIGHEST}) refused(ARGUMENT, o, () -> o.job(what));
            refused(STATE, o, () -> o.job(0));
            refused(STATE, o, () -> o.job(7));
            o.begin(0, 7);
            due(7, () -> o.job(0));
            due(0, () -> o.job(7));
            for (int what : new int[] {-1, 8}) refused(ARGUMENT, o, () -> o.job(what));
        });
    }

    private static void sorting() {
        test("Does a whole job at once; it is not torn, and the job that there is stays as it is.", () -> {
            RunmergeOffice o = job(4, 0, 2);
            o.work(1);
            due(12, () -> o.sort(0, 1));
            due("3 2 1 0", () -> row(o, 1));
            due("1 0 3 0 1 6 0 0", () -> jobOf(o));
            o.clear(1);
            due(2, () -> o.work(200));
            due("3 2 1 0", () -> row(o, 1));
            RunmergeOffice none = singles(3);
            none.sort(0, 1);
            due(STATE, () -> none.job(0));
            RunmergeOffice over = job(1, 0, 2);
            over.sort(0, 5);
            due("1 1 1 0 0 1 0 0", () -> jobOf(over));
        });
        test("Returns all its moves.", () -> {
            RunmergeOffice o = singles(1);
            due(0, () -> o.sort(5, 6));
            due(1, () -> o.sort(0, 6));
            due(0, () -> o.sort(5, 6));
            due(0, () -> o.length(6));
            due(0, () -> o.sort(6, 0));
            due(0, () -> o.length(0));
            RunmergeOffice s = singles(100);
            due(788, () -> s.sort(0, 1));
            s.setMerge(1, 2);
            due(772, () -> s.sort(0, 1));
            due(100, () -> s.sort(1, 1));
            s.setMerge(0, 6);
            due(400, () -> s.sort(0, 0));
            due(100, () -> s.sort(0, 0));
            due(true, () -> s.isSorted(0, 0));
        });
    }
}
