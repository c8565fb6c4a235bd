import java.util.NoSuchElementException;

/** An office that sorts records on tapes by making runs with a small memory and merging them. */
public final class RunmergeOffice {
    public static final int NONE = -1;
    public static final int UP = 0, DOWN = 1;
    public static final int FULL = 0, REPLACEMENT = 1, NATURAL = 2;
    public static final int BALANCED = 0, SHORTEST = 1, POLYPHASE = 2;
    public static final int UNITE = 0, COMMON = 1, WITHOUT = 2;

    private static final int TAPES = 8;
    private static final int MOST_RECORDS = 200;
    private static final int MOST_ON_TAPE = 100;
    private static final int MOST_AT_ONCE = 50;
    private static final int GREATEST_KEY = 999;
    private static final int GREATEST_MARK = 9999;
    private static final int GREATEST_STEP = 50;
    private static final int GREATEST_RANGE = 999;
    private static final int MOST_MEMORY = 50;
    private static final int LEAST_WAYS = 2;
    private static final int MOST_WAYS = 6;
    private static final int MOST_MERGES = 200;
    private static final int MOST_TEXT = 160;

    // POLYPHASE with 4 ways fills 95 to 100 runs up to 181: no other number of ways needs more.
    private static final int MOST_RUNS = 200;

    // A rank is a multiple of this, by the key, and the record's number, which is less.
    private static final int RANK_STEP = 256;

    private static final String EXAMPLE_0 =
        "sort 0 into 1; sort 0 into 2 full 3 poly 3; sort 0 into 3 natural shortest; first 3;";
    private static final String EXAMPLE_1 =
        "sort 0 into 0 replace 2 balanced 3; sort 1 into 1; common 0 1 into 2; without 0 1 into 3; unite 2 3 into 4;";
    private static final String EXAMPLE_2 =
        "copy 0 into 5; turn 5; sort 5 into 6 down full 1; last 6; clear 5;";

    private static final int WRONG_WORD = 1;
    private static final int WRONG_NUMBER = 2;
    private static final int WRONG_STATEMENT = 3;

    private static final int SORTING = 0;
    private static final int COMBINING = 1;
    private static final int COPYING = 2;
    private static final int THINNING = 3;
    private static final int TURNING = 4;
    private static final int CLEARING = 5;

    private final Book book = new Book();
    private final Tape[] tapes = new Tape[TAPES];
    private final Tape[] copies = new Tape[TAPES];
    private final Tape joined = new Tape();
    private final Settings settings = new Settings();
    private final RunMaker maker = new RunMaker();
    private final RunRow asked = new RunRow();
    private final Plan planned = new Plan();
    private final Job standing = new Job();
    private final Job passing = new Job();
    private final Reader reader = new Reader();
    private final Checker checker = new Checker();
    private boolean hasJob = false;

    public RunmergeOffice() {
        for (int i = 0; i < TAPES; i++) {
            tapes[i] = new Tape();
            copies[i] = new Tape();
        }
    }

    // ---- records and tapes ----

    public int put(int tape, int key, int mark)
            throws IndexOutOfBoundsException, IllegalArgumentException, IllegalStateException {
        Tape on = tapeOf(tape);
        demandRange(key, -GREATEST_KEY, GREATEST_KEY);
        demandRange(mark, 0, GREATEST_MARK);
        demandRoom(on, 1);
        int record = book.add(key, mark);
        on.add(record);
        return record;
    }

    public int fill(int tape, int first, int step, int many)
            throws IndexOutOfBoundsException, IllegalArgumentException, IllegalStateException {
        Tape on = tapeOf(tape);
        demandRange(first, -GREATEST_KEY, GREATEST_KEY);
        demandRange(step, -GREATEST_STEP, GREATEST_STEP);
        demandRange(many, 0, MOST_AT_ONCE);
        if (many > 0) {
            demandRange(first + step * (many - 1), -GREATEST_KEY, GREATEST_KEY);
        }
        demandRoom(on, many);
        for (int i = 0; i < many; i++) {
            on.add(book.add(first + step * i, 0));
        }
        return on.size;
    }

    public int scatter(int tape, int many, int range, int seed)
            throws IndexOutOfBoundsException, IllegalArgumentException, IllegalStateException {
        Tape on = tapeOf(tape);
        demandRange(many, 0, MOST_AT_ONCE);
        if (range < 1 || range > GREATEST_RANGE) {
            throw new IllegalArgumentException("the range is out of range");
        }
        demandRange(seed, 0, Integer.MAX_VALUE);
        demandRoom(on, many);
        long x = seed;
        for (int i = 0; i < many; i++) {
            x = (x * 1103515245L + 12345L) & 0x7fffffffL;
            on.add(book.add((int) ((x >> 16) % range), 0));
        }
        return on.size;
    }

    public int records() {
        return book.count;
    }

    public int key(int record) throws IndexOutOfBoundsException {
        demandRecord(record);
        return book.keyOf(record);
    }

    public int mark(int record) throws IndexOutOfBoundsException {
        demandRecord(record);
        return book.markOf(record);
    }

    public int length(int tape) throws IndexOutOfBoundsException {
        return tapeOf(tape).size;
    }

    public int at(int tape, int place) throws IndexOutOfBoundsException {
        Tape of = tapeOf(tape);
        if (place < 0 || place >= of.size) {
            throw new IndexOutOfBoundsException("there is no such place");
        }
        return of.recordAt(place);
    }

    public int digest(int tape) throws IndexOutOfBoundsException {
        Tape of = tapeOf(tape);
        int digest = 7;
        for (int i = 0; i < of.size; i++) {
            digest = digest * 31 + of.recordAt(i);
        }
        return digest;
    }

    public boolean isSorted(int tape, int order) throws IndexOutOfBoundsException, IllegalArgumentException {
        Tape of = tapeOf(tape);
        demandRange(order, UP, DOWN);
        return of.isInOrder(book, order);
    }

    public int clear(int tape) throws IndexOutOfBoundsException {
        Tape of = tapeOf(tape);
        int before = of.size;
        of.empty();
        return before;
    }

    public int copy(int tape, int to) throws IndexOutOfBoundsException {
        Tape from = tapeOf(tape);
        Tape into = tapeOf(to);
        into.takeOver(from);
        return into.size;
    }

    public int turn(int tape) throws IndexOutOfBoundsException {
        Tape of = tapeOf(tape);
        of.reverse();
        return of.size;
    }

    // ---- settings ----

    public int setRuns(int order, int way, int memory) throws IllegalArgumentException {
        demandRange(order, UP, DOWN);
        demandRange(way, FULL, NATURAL);
        demandRange(memory, 1, MOST_MEMORY);
        int before = settings.memory;
        settings.order = order;
        settings.runWay = way;
        settings.memory = memory;
        return before;
    }

    public int setMerge(int way, int ways) throws IllegalArgumentException {
        demandRange(way, BALANCED, POLYPHASE);
        demandRange(ways, LEAST_WAYS, MOST_WAYS);
        int before = settings.ways;
        settings.mergeWay = way;
        settings.ways = ways;
        return before;
    }

    public int setting(int what) throws IllegalArgumentException {
        switch (what) {
            case 0: return settings.order;
            case 1: return settings.runWay;
            case 2: return settings.memory;
            case 3: return settings.mergeWay;
            case 4: return settings.ways;
            default: throw new IllegalArgumentException("there is no such setting");
        }
    }

    // ---- runs and plans ----

    public int runs(int tape) throws IndexOutOfBoundsException {
        maker.makeRuns(book, tapeOf(tape), settings, asked);
        return asked.count;
    }

    public int runLength(int tape, int run) throws IndexOutOfBoundsException {
        askForRun(tape, run);
        return asked.lengthOf(run);
    }

    public int runAt(int tape, int run, int place) throws IndexOutOfBoundsException {
        askForRun(tape, run);
        if (place < 0 || place >= asked.lengthOf(run)) {
            throw new IndexOutOfBoundsException("there is no such place");
        }
        return Book.recordOf(asked.rankAt(run, place));
    }

    public int plan(int tape, int what) throws IndexOutOfBoundsException, IllegalArgumentException {
        Tape of = tapeOf(tape);
        demandRange(what, 0, 3);
        maker.makeRuns(book, of, settings, asked);
        planned.tell(asked, settings);
        switch (what) {
            case 0: return planned.passes;
            case 1: return planned.moves;
            case 2: return planned.merges;
            default: return planned.pass.level;
        }
    }

    public int leastMoves(int tape) throws IndexOutOfBoundsException {
        maker.makeRuns(book, tapeOf(tape), settings, asked);
        return planned.fewestMoves(asked);
    }

    // ---- jobs ----

    public int begin(int tape, int to) throws IndexOutOfBoundsException {
        Tape from = tapeOf(tape);
        Tape into = tapeOf(to);
        int made = standing.start(book, from, to, settings);
        hasJob = true;
        if (standing.isOver()) {
            standing.writeTo(into);
        }
        return made;
    }

    public int work(int merges) throws IllegalArgumentException, IllegalStateException {
        demandRange(merges, 1, MOST_MERGES);
        demandJobUnderWay();
        int done = 0;
        while (done < merges && !standing.isOver()) {
            standing.doMerge();
            done++;
        }
        if (standing.isOver()) {
            standing.writeTo(tapeOf(standing.target));
        }
        return done;
    }

    public int tear() throws IllegalStateException {
        demandJobUnderWay();
        return standing.losePass();
    }

    public int job(int what) throws IllegalArgumentException, IllegalStateException {
        demandRange(what, 0, 7);
        if (!hasJob) {
            throw new IllegalStateException("there is no job");
        }
        switch (what) {
            case 0: return standing.target;
            case 1: return standing.isOver() ? 1 : 0;
            case 2: return standing.runsLeft();
            case 3: return standing.passes;
            case 4: return standing.merges;
            case 5: return standing.moves;
            case 6: return standing.lostMoves;
            default: return standing.timesTorn;
        }
    }

    public int sort(int tape, int to) throws IndexOutOfBoundsException {
        Tape from = tapeOf(tape);
        Tape into = tapeOf(to);
        passing.doWhole(book, from, into, settings);
        return passing.moves;
    }

    // ---- sorted tapes ----

    public int combine(int tape, int other, int to, int how)
            throws IndexOutOfBoundsException, IllegalArgumentException, IllegalStateException {
        Tape first = tapeOf(tape);
        Tape second = tapeOf(other);
        Tape into = tapeOf(to);
        demandRange(how, UNITE, WITHOUT);
        if (!join(first, second, into, how)) {
            throw new IllegalStateException("the tapes cannot be combined");
        }
        return into.size;
    }

    public int thin(int tape, boolean isLast) throws IndexOutOfBoundsException {
        return tapeOf(tape).thinOut(book, isLast);
    }

    public int find(int tape, int key) throws IndexOutOfBoundsException, IllegalStateException {
        Tape of = sortedTapeOf(tape);
        int place = of.countBelow(book, key);
        return place < of.size && of.keyAt(book, place) == key ? place : NONE;
    }

    public int floor(int tape, int key)
            throws IndexOutOfBoundsException, IllegalStateException, NoSuchElementException {
        Tape of = sortedTapeOf(tape);
        int place = of.countUpTo(book, key) - 1;
        if (place < 0) {
            throw new NoSuchElementException("no key is so small");
        }
        return of.keyAt(book, place);
    }

    public int ceiling(int tape, int key)
            throws IndexOutOfBoundsException, IllegalStateException, NoSuchElementException {
        Tape of = sortedTapeOf(tape);
        int place = of.countBelow(book, key);
        if (place >= of.size) {
            throw new NoSuchElementException("no key is so great");
        }
        return of.keyAt(book, place);
    }

    public int between(int tape, int from, int to) throws IndexOutOfBoundsException, IllegalStateException {
        Tape of = sortedTapeOf(tape);
        return Math.max(0, of.countUpTo(book, to) - of.countBelow(book, from));
    }

    public int keys(int tape) throws IndexOutOfBoundsException, IllegalStateException {
        Tape of = sortedTapeOf(tape);
        int different = 0;
        for (int i = 0; i < of.size; i++) {
            if (i == 0 || of.keyAt(book, i) != of.keyAt(book, i - 1)) {
                different++;
            }
        }
        return different;
    }

    // ---- programs ----

    public int type(long bytes) throws IllegalStateException {
        int many = 0;
        for (int shift = 56; shift >= 0; shift -= 8) {
            many += byteOf(bytes, shift) != 0 ? 1 : 0;
        }
        if (reader.text.size + many > MOST_TEXT) {
            throw new IllegalStateException("the text would be too long");
        }
        for (int shift = 56; shift >= 0; shift -= 8) {
            int one = byteOf(bytes, shift);
            if (one != 0) {
                reader.text.add(one);
            }
        }
        return reader.text.size;
    }

    public int clearText() {
        int before = reader.text.size;
        reader.text.empty();
        return before;
    }

    public int textLength() {
        return reader.text.size;
    }

    public int example(int which) throws IllegalArgumentException {
        demandRange(which, 0, 2);
        reader.text.replaceBy(which == 0 ? EXAMPLE_0 : which == 1 ? EXAMPLE_1 : EXAMPLE_2);
        return reader.text.size;
    }

    public int errorKind() {
        carryOutText();
        return reader.faultKind;
    }

    public int errorPlace() {
        carryOutText();
        return reader.faultPlace;
    }

    public int run() throws IllegalStateException {
        int statements = carryOutText();
        if (reader.faultKind != 0) {
            throw new IllegalStateException("the text has an error");
        }
        for (int i = 0; i < TAPES; i++) {
            tapes[i].takeOver(copies[i]);
        }
        return statements;
    }

    // ---- sums over tapes ----

    public int errors(int tape) throws IndexOutOfBoundsException {
        return checker.countFailures(book, tapeOf(tape), settings);
    }

    public double meanKey(int tape) throws IndexOutOfBoundsException {
        Tape of = tapeOf(tape);
        if (of.size == 0) {
            return 0.0;
        }
        int sum = 0;
        for (int i = 0; i < of.size; i++) {
            sum += of.keyAt(book, i);
        }
        return (double) sum / (double) of.size;
    }

    public float sortedShare() {
        int sorted = 0;
        for (int i = 0; i < TAPES; i++) {
            sorted += tapes[i].isInOrder(book, UP) ? 1 : 0;
        }
        return (float) sorted / 8.0f;
    }

    // ---- what calls demand ----

    private Tape tapeOf(int tape) {
        if (tape < 0 || tape >= TAPES) {
            throw new IndexOutOfBoundsException("there is no such tape");
        }
        return tapes[tape];
    }

    private Tape sortedTapeOf(int tape) {
        Tape of = tapeOf(tape);
        if (!of.isInOrder(book, UP)) {
            throw new IllegalStateException("the tape is not in order");
        }
        return of;
    }

    private void demandRecord(int record) {
        if (!book.has(record)) {
            throw new IndexOutOfBoundsException("there is no such record");
        }
    }

    private void demandRange(int value, int least, int most) {
        if (value < least || value > most) {
            throw new IllegalArgumentException("a parameter is out of range");
        }
    }

    private void demandRoom(Tape on, int many) {
        if (book.count + many > MOST_RECORDS || on.size + many > MOST_ON_TAPE) {
            throw new IllegalStateException("there is no room for so many records");
        }
    }

    private void demandJobUnderWay() {
        if (!hasJob || standing.isOver()) {
            throw new IllegalStateException("no job is under way");
        }
    }

    private void askForRun(int tape, int run) {
        maker.makeRuns(book, tapeOf(tape), settings, asked);
        if (run < 0 || run >= asked.count) {
            throw new IndexOutOfBoundsException("there is no such run");
        }
    }

    private static int byteOf(long bytes, int shift) {
        return (int) ((bytes >>> shift) & 255L);
    }

    // ---- what calls and programs both do ----

    /** Returns false, and changes nothing, if the tapes cannot be combined. */
    private boolean join(Tape first, Tape second, Tape into, int how) {
        if (!first.isInOrder(book, UP) || !second.isInOrder(book, UP)) {
            return false;
        }
        if (how == UNITE && first.size + second.size > MOST_ON_TAPE) {
            return false;
        }
        // The third tape may be one of both, so it is written when all is read.
        joined.empty();
        if (how == UNITE) {
            joined.unite(book, first, second);
        } else {
            joined.pick(book, first, second, how == COMMON);
        }
        into.takeOver(joined);
        return true;
    }

    /** Carries the text out on the copies, as far as it goes, and returns the number of statements done. */
    private int carryOutText() {
        // No statement is carried out before the whole text is read, since its form matters first.
        reader.restart();
        boolean goesOn = true;
        for (int i = 0; i <= MOST_TEXT && goesOn; i++) {
            goesOn = reader.readStatement(settings);
        }
        if (reader.faultKind != 0) {
            return 0;
        }
        for (int i = 0; i < TAPES; i++) {
            copies[i].takeOver(tapes[i]);
        }
        reader.restart();
        int statements = 0;
        while (statements <= MOST_TEXT && reader.readStatement(settings)) {
            if (!carryOutStatement()) {
                reader.faultKind = WRONG_STATEMENT;
                reader.faultPlace = reader.statementPlace;
                return statements;
            }
            statements++;
        }
        return statements;
    }

    /** Returns false if the statement cannot be done. */
    private boolean carryOutStatement() {
        int first = reader.tapeAt(0);
        int second = reader.tapeAt(1);
        int third = reader.tapeAt(2);
        if (!isTape(first) || !isTape(second) || !isTape(third)) {
            return false;
        }
        Tape from = copies[first];
        Tape into = copies[third];
        switch (reader.action) {
            case SORTING:
                passing.doWhole(book, from, into, reader.told);
                return true;
            case COMBINING:
                return join(from, copies[second], into, reader.how);
            case COPYING:
                into.takeOver(from);
                return true;
            case THINNING:
                from.thinOut(book, reader.isLast);
                return true;
            case TURNING:
                from.reverse();
                return true;
            default:
                from.empty();
                return true;
        }
    }

    private static boolean isTape(int tape) {
        return tape >= 0 && tape < TAPES;
    }

    /** The records that have been made. */
    private static final class Book {
        private final int[] allKeys = new int[MOST_RECORDS];
        private final int[] allMarks = new int[MOST_RECORDS];
        private int count = 0;

        boolean has(int record) {
            return record >= 0 && record < count;
        }

        int add(int key, int mark) {
            int record = count;
            if (record < 0 || record >= MOST_RECORDS) {
                return NONE;
            }
            allKeys[record] = key;
            allMarks[record] = mark;
            count = record + 1;
            return record;
        }

        int keyOf(int record) {
            return record >= 0 && record < MOST_RECORDS ? allKeys[record] : 0;
        }

        int markOf(int record) {
            return record >= 0 && record < MOST_RECORDS ? allMarks[record] : 0;
        }

        /** A record is before another one if and only if its rank is less. */
        int rankOf(int record, int order) {
            if (record < 0 || record >= MOST_RECORDS) {
                return 0;
            }
            int distance = order == UP ? allKeys[record] + GREATEST_KEY : GREATEST_KEY - allKeys[record];
            return distance * RANK_STEP + record;
        }

        static int recordOf(int rank) {
            return rank & (RANK_STEP - 1);
        }
    }

    /** A row of records. */
    private static final class Tape {
        private final int[] held = new int[MOST_ON_TAPE];
        private int size = 0;

        int recordAt(int place) {
            return place >= 0 && place < size && place < MOST_ON_TAPE ? held[place] : NONE;
        }

        int keyAt(Book book, int place) {
            return book.keyOf(recordAt(place));
        }

        void empty() {
            size = 0;
        }

        void add(int record) {
            if (size >= 0 && size < MOST_ON_TAPE) {
                held[size] = record;
                size++;
            }
        }

        void takeOver(Tape other) {
            int many = Math.min(other.size, MOST_ON_TAPE);
            for (int i = 0; i < many; i++) {
                held[i] = other.held[i];
            }
            size = many;
        }

        void reverse() {
            int many = Math.min(size, MOST_ON_TAPE);
            for (int i = 0; i < many / 2; i++) {
                int record = held[i];
                held[i] = held[many - 1 - i];
                held[many - 1 - i] = record;
            }
        }

        boolean isInOrder(Book book, int order) {
            for (int i = 1; i < size; i++) {
                if (book.rankOf(recordAt(i), order) < book.rankOf(recordAt(i - 1), order)) {
                    return false;
                }
            }
            return true;
        }

        /** Returns how many records were removed. */
        int thinOut(Book book, boolean isLast) {
            int before = Math.min(size, MOST_ON_TAPE);
            int kept = 0;
            for (int i = 0; i < before; i++) {
                int neighbour = isLast ? i + 1 : i - 1;
                boolean isAlone = neighbour < 0 || neighbour >= before
                    || keyAt(book, neighbour) != keyAt(book, i);
                // No record that is still to be looked at is overwritten, since kept is at most i.
                if (isAlone && kept < MOST_ON_TAPE) {
                    held[kept] = held[i];
                    kept++;
                }
            }
            size = kept;
            return before - kept;
        }

        /** How many records have lesser keys; for a tape in order, UP, the place of the first other one. */
        int countBelow(Book book, int key) {
            int many = 0;
            for (int i = 0; i < size; i++) {
                many += keyAt(book, i) < key ? 1 : 0;
            }
            return many;
        }

        int countUpTo(Book book, int key) {
            int many = 0;
            for (int i = 0; i < size; i++) {
                many += keyAt(book, i) <= key ? 1 : 0;
            }
            return many;
        }

        private boolean holdsKey(Book book, int key) {
            for (int i = 0; i < size; i++) {
                if (keyAt(book, i) == key) {
                    return true;
                }
            }
            return false;
        }

        /** Puts the records of two tapes in order behind those that are there. */
        void unite(Book book, Tape first, Tape second) {
            int one = 0;
            int two = 0;
            int all = first.size + second.size;
            for (int i = 0; i < all; i++) {
                int record = first.recordAt(one);
                int other = second.recordAt(two);
                boolean isOther = one >= first.size
                    || two < second.size && book.rankOf(other, UP) < book.rankOf(record, UP);
                add(isOther ? other : record);
                one += isOther ? 0 : 1;
                two += isOther ? 1 : 0;
            }
        }

        /** Puts those records of the first tape behind whose keys the second one has, or has not. */
        void pick(Book book, Tape first, Tape second, boolean isCommon) {
            for (int i = 0; i < first.size; i++) {
                if (second.holdsKey(book, first.keyAt(book, i)) == isCommon) {
                    add(first.recordAt(i));
                }
            }
        }
    }

    /** How runs are made and merged. */
    private static final class Settings {
        private int order = UP;
        private int runWay = REPLACEMENT;
        private int memory = 4;
        private int mergeWay = BALANCED;
        private int ways = LEAST_WAYS;

        void takeOver(Settings other) {
            order = other.order;
            runWay = other.runWay;
            memory = other.memory;
            mergeWay = other.mergeWay;
            ways = other.ways;
        }
    }

    /** A row of runs, each a row of ranks. */
    private static final class RunRow {
        private final int[] ranks = new int[MOST_ON_TAPE];
        private final int[] starts = new int[MOST_RUNS];
        private final int[] lengths = new int[MOST_RUNS];
        private int count = 0;
        private int filled = 0;

        void empty() {
            count = 0;
            filled = 0;
        }

        void openRun() {
            if (count >= 0 && count < MOST_RUNS) {
                starts[count] = filled;
                lengths[count] = 0;
                count++;
            }
        }

        /** Puts a rank at the end of the latest run. */
        void add(int rank) {
            if (count > 0 && count <= MOST_RUNS && filled >= 0 && filled < MOST_ON_TAPE) {
                ranks[filled] = rank;
                filled++;
                lengths[count - 1]++;
            }
        }

        /** Puts a run of another row behind all runs. */
        void addRunOf(RunRow other, int run) {
            if (run < 0 || run >= MOST_RUNS || count < 0 || count >= MOST_RUNS) {
                return;
            }
            int many = other.lengths[run];
            int from = other.starts[run];
            if (from < 0 || filled < 0 || from + many > MOST_ON_TAPE || filled + many > MOST_ON_TAPE) {
                return;
            }
            starts[count] = filled;
            lengths[count] = many;
            count++;
            for (int i = 0; i < many; i++) {
                ranks[filled + i] = other.ranks[from + i];
            }
            filled += many;
        }

        int lengthOf(int run) {
            return run >= 0 && run < count && run < MOST_RUNS ? lengths[run] : 0;
        }

        int rankAt(int run, int place) {
            if (run < 0 || run >= count || run >= MOST_RUNS || place < 0 || place >= lengths[run]) {
                return 0;
            }
            int index = starts[run] + place;
            return index >= 0 && index < MOST_ON_TAPE ? ranks[index] : 0;
        }
    }

    /** Makes runs of a tape. */
    private static final class RunMaker {
        private final int[] memory = new int[MOST_MEMORY];
        private final int[] runOf = new int[MOST_MEMORY];
        private int held = 0;

        void makeRuns(Book book, Tape tape, Settings with, RunRow into) {
            into.empty();
            int room = Math.max(1, Math.min(with.memory, MOST_MEMORY));
            if (with.runWay == FULL) {
                makeFull(book, tape, with.order, room, into);
            } else if (with.runWay == REPLACEMENT) {
                makeByReplacement(book, tape, with.order, room, into);
            } else {
                makeNatural(book, tape, with.order, into);
            }
        }

        private void makeFull(Book book, Tape tape, int order, int room, RunRow into) {
            held = 0;
            for (int i = 0; i < tape.size; i++) {
                holdInOrder(book.rankOf(tape.recordAt(i), order));
                if (held >= room || i == tape.size - 1) {
                    into.openRun();
                    for (int j = 0; j < held && j < MOST_MEMORY; j++) {
                        into.add(memory[j]);
                    }
                    held = 0;
                }
            }
        }

        private void holdInOrder(int rank) {
            if (held < 0 || held >= MOST_MEMORY) {
                return;
            }
            int place = held;
            while (place > 0 && memory[place - 1] > rank) {
                memory[place] = memory[place - 1];
                place--;
            }
            memory[place] = rank;
            held++;
        }

        private void makeByReplacement(Book book, Tape tape, int order, int room, RunRow into) {
            held = 0;
            int next = 0;
            while (next < tape.size && next < room) {
                hold(next, book.rankOf(tape.recordAt(next), order), 0);
                next++;
            }
            held = next;
            int run = 0;
            for (int moved = 0; moved < tape.size; moved++) {
                int least = leastOf(run);
                if (least == NONE) {
                    run++;
                    least = leastOf(run);
                }
                if (least < 0 || least >= held || least >= MOST_MEMORY) {
                    return;
                }
                int gone = memory[least];
                if (into.count <= run) {
                    into.openRun();
                }
                into.add(gone);
                if (next < tape.size) {
                    int rank = book.rankOf(tape.recordAt(next), order);
                    hold(least, rank, rank < gone ? run + 1 : run);
                    next++;
                } else {
                    drop(least);
                }
            }
        }

        private void hold(int slot, int rank, int run) {
            if (slot >= 0 && slot < MOST_MEMORY) {
                memory[slot] = rank;
                runOf[slot] = run;
            }
        }

        private void drop(int slot) {
            int end = held - 1;
            if (slot >= 0 && slot <= end && end < MOST_MEMORY) {
                memory[slot] = memory[end];
                runOf[slot] = runOf[end];
                held = end;
            }
        }

        /** Returns where the memory holds the least rank of a run; NONE if it holds none. */
        private int leastOf(int run) {
            int least = NONE;
            for (int i = 0; i < held && i < MOST_MEMORY; i++) {
                if (runOf[i] == run && (least == NONE || memory[i] < memory[least])) {
                    least = i;
                }
            }
            return least;
        }

        private void makeNatural(Book book, Tape tape, int order, RunRow into) {
            int latest = 0;
            for (int i = 0; i < tape.size; i++) {
                int rank = book.rankOf(tape.recordAt(i), order);
                if (i == 0 || rank < latest) {
                    into.openRun();
                }
                into.add(rank);
                latest = rank;
            }
        }
    }

    /** Tells which runs a pass merges with one another. */
    private static final class Pass {
        private final int[] mergeTaking = new int[MOST_RUNS];
        private final int[] rows = new int[MOST_WAYS];
        private int way = BALANCED;
        private int ways = LEAST_WAYS;
        private int merges = 0;
        private int level = 0;

        /** Returns how many runs there are to merge, with the empty ones that POLYPHASE adds behind. */
        int arrange(Settings with, int runs) {
            way = with.mergeWay;
            ways = Math.max(LEAST_WAYS, Math.min(with.ways, MOST_WAYS));
            level = 0;
            merges = 0;
            if (way != POLYPHASE || runs == 0) {
                return runs;
            }
            for (int i = 0; i < MOST_WAYS; i++) {
                rows[i] = i == 0 ? 1 : 0;
            }
            int total = 1;
            while (total < runs && level < MOST_RUNS) {
                total = raiseLevel();
                level++;
            }
            return total;
        }

        private int raiseLevel() {
            int first = rows[0];
            int total = 0;
            for (int i = 0; i < ways && i < MOST_WAYS; i++) {
                boolean isLast = i + 1 >= ways || i + 1 >= MOST_WAYS;
                rows[i] = isLast ? first : first + rows[i + 1];
                total += rows[i];
            }
            return total;
        }

        /** Decides the merges of the pass that begins with runs of these lengths. */
        void choose(int[] lengths, int count) {
            for (int i = 0; i < MOST_RUNS; i++) {
                mergeTaking[i] = NONE;
            }
            int runs = Math.min(count, Math.min(MOST_RUNS, lengths.length));
            if (way == BALANCED) {
                chooseGroups(runs);
            } else if (way == SHORTEST) {
                chooseShortest(lengths, runs);
            } else {
                chooseHeads(runs);
            }
        }

        private void chooseGroups(int runs) {
            if (ways < LEAST_WAYS) {
                return;
            }
            // A group of one run at the end is no merge.
            merges = (runs + ways - 2) / ways;
            for (int i = 0; i < runs && i < MOST_RUNS; i++) {
                int group = i / ways;
                mergeTaking[i] = group < merges ? group : NONE;
            }
        }

        private void chooseShortest(int[] lengths, int runs) {
            merges = 1;
            for (int taken = 0; taken < 2; taken++) {
                int shortest = NONE;
                for (int i = 0; i < runs && i < MOST_RUNS && i < lengths.length; i++) {
                    if (mergeTaking[i] == NONE && (shortest == NONE || lengths[i] < lengths[shortest])) {
                        shortest = i;
                    }
                }
                if (shortest >= 0) {
                    mergeTaking[shortest] = 0;
                }
            }
        }

        private void chooseHeads(int runs) {
            int last = ways - 1;
            merges = last >= 0 && last < MOST_WAYS ? rows[last] : 0;
            int run = 0;
            for (int row = 0; row < ways && row < MOST_WAYS; row++) {
                for (int i = 0; i < rows[row] && run < runs && run < MOST_RUNS; i++) {
                    mergeTaking[run] = i < merges ? i : NONE;
                    run++;
                }
            }
        }

        /** Moves the rows of POLYPHASE on: the new one becomes the first, the last one is left out. */
        void close() {
            for (int i = Math.min(ways, MOST_WAYS) - 1; i > 0; i--) {
                rows[i] = rows[i - 1] - merges;
            }
            rows[0] = merges;
        }

        /** Returns the number of the merge that takes a run; NONE if it stays as it is. */
        int mergeOf(int run) {
            return run >= 0 && run < MOST_RUNS ? mergeTaking[run] : NONE;
        }

        boolean putsNewRunsFirst() {
            return way != SHORTEST;
        }
    }

    /** Tells the costs of a merge by the lengths of the runs alone. */
    private static final class Plan {
        private final Pass pass = new Pass();
        private int[] lengths = new int[MOST_RUNS];
        private int[] newLengths = new int[MOST_RUNS];
        private int count = 0;
        private int newCount = 0;
        private int passes = 0;
        private int moves = 0;
        private int merges = 0;

        void tell(RunRow runs, Settings with) {
            takeLengths(runs, pass.arrange(with, runs.count));
            passes = 0;
            moves = 0;
            merges = 0;
            while (count > 1 && passes < MOST_RUNS) {
                planPass();
                passes++;
            }
        }

        private void takeLengths(RunRow runs, int many) {
            count = Math.min(many, MOST_RUNS);
            for (int i = 0; i < count; i++) {
                lengths[i] = runs.lengthOf(i);
            }
        }

        private void planPass() {
            pass.choose(lengths, count);
            newCount = 0;
            if (pass.putsNewRunsFirst()) {
                planMerges();
                keepOthers();
            } else {
                keepOthers();
                planMerges();
            }
            pass.close();
            int[] old = lengths;
            lengths = newLengths;
            newLengths = old;
            count = newCount;
        }

        private void planMerges() {
            for (int merge = 0; merge < pass.merges; merge++) {
                int sum = 0;
                for (int i = 0; i < count && i < MOST_RUNS; i++) {
                    sum += pass.mergeOf(i) == merge ? lengths[i] : 0;
                }
                addLength(sum);
                moves += sum;
                merges++;
            }
        }

        private void keepOthers() {
            for (int i = 0; i < count && i < MOST_RUNS; i++) {
                if (pass.mergeOf(i) == NONE) {
                    addLength(lengths[i]);
                }
            }
        }

        private void addLength(int length) {
            if (newCount >= 0 && newCount < MOST_RUNS) {
                newLengths[newCount] = length;
                newCount++;
            }
        }

        /** The two shortest runs of all, again and again, cost the least. */
        int fewestMoves(RunRow runs) {
            takeLengths(runs, runs.count);
            int least = 0;
            for (int left = count; left > 1; left--) {
                int sum = takeShortest(left) + takeShortest(left - 1);
                if (left - 2 < MOST_RUNS) {
                    lengths[left - 2] = sum;
                }
                least += sum;
            }
            return least;
        }

        /** Takes the shortest of so many lengths out, and puts the last one in its place. */
        private int takeShortest(int many) {
            int end = many - 1;
            if (end < 0 || end >= MOST_RUNS) {
                return 0;
            }
            int shortest = end;
            for (int i = 0; i < end; i++) {
                shortest = lengths[i] < lengths[shortest] ? i : shortest;
            }
            int length = lengths[shortest];
            lengths[shortest] = lengths[end];
            return length;
        }
    }

    /** Sorts a tape merge by merge. */
    private static final class Job {
        private final RunMaker maker = new RunMaker();
        private final Pass pass = new Pass();
        private final int[] inputs = new int[MOST_WAYS];
        private final int[] places = new int[MOST_WAYS];
        private int inputCount = 0;
        // The runs as the pass under way began, those that it has made, and a row to keep the next ones in.
        private RunRow now = new RunRow();
        private final RunRow made = new RunRow();
        private RunRow next = new RunRow();
        private int target = 0;
        private int passes = 0;
        private int merges = 0;
        private int moves = 0;
        private int movesOfPass = 0;
        private int lostMoves = 0;
        private int timesTorn = 0;

        /** Returns the number of runs, empty ones left out. */
        int start(Book book, Tape tape, int to, Settings with) {
            maker.makeRuns(book, tape, with, now);
            int runs = now.count;
            int all = pass.arrange(with, runs);
            for (int i = runs; i < all; i++) {
                now.openRun();
            }
            made.empty();
            target = to;
            passes = 0;
            merges = 0;
            moves = tape.size;
            movesOfPass = 0;
            lostMoves = 0;
            timesTorn = 0;
            return runs;
        }

        boolean isOver() {
            return now.count <= 1;
        }

        /** Does one merge, and ends the pass with its last one. */
        void doMerge() {
            if (made.count == 0) {
                pass.choose(now.lengths, now.count);
            }
            int moved = mergeRuns(made.count);
            merges++;
            moves += moved;
            movesOfPass += moved;
            if (made.count >= pass.merges) {
                endPass();
            }
        }

        /** Returns how many records were moved. */
        private int mergeRuns(int merge) {
            inputCount = 0;
            int moved = 0;
            for (int run = 0; run < now.count; run++) {
                if (pass.mergeOf(run) == merge && inputCount < MOST_WAYS) {
                    inputs[inputCount] = run;
                    places[inputCount] = 0;
                    inputCount++;
                    moved += now.lengthOf(run);
                }
            }
            made.openRun();
            for (int i = 0; i < moved; i++) {
                int input = inputWithLeastRank();
                if (input >= 0 && input < MOST_WAYS) {
                    made.add(now.rankAt(inputs[input], places[input]));
                    places[input]++;
                }
            }
            return moved;
        }

        private int inputWithLeastRank() {
            int least = NONE;
            int leastRank = 0;
            for (int i = 0; i < inputCount && i < MOST_WAYS; i++) {
                if (places[i] < now.lengthOf(inputs[i])) {
                    int rank = now.rankAt(inputs[i], places[i]);
                    if (least == NONE || rank < leastRank) {
                        least = i;
                        leastRank = rank;
                    }
                }
            }
            return least;
        }

        private void endPass() {
            next.empty();
            if (pass.putsNewRunsFirst()) {
                keepMade();
                keepOthers();
            } else {
                keepOthers();
                keepMade();
            }
            RunRow old = now;
            now = next;
            next = old;
            made.empty();
            movesOfPass = 0;
            passes++;
            pass.close();
        }

        private void keepMade() {
            for (int run = 0; run < made.count; run++) {
                next.addRunOf(made, run);
            }
        }

        private void keepOthers() {
            for (int run = 0; run < now.count; run++) {
                if (pass.mergeOf(run) == NONE) {
                    next.addRunOf(now, run);
                }
            }
        }

        /** Returns how many moves are lost. */
        int losePass() {
            int lost = movesOfPass;
            lostMoves += lost;
            movesOfPass = 0;
            made.empty();
            timesTorn++;
            return lost;
        }

        int runsLeft() {
            int left = made.count;
            for (int run = 0; run < now.count; run++) {
                int merge = pass.mergeOf(run);
                boolean isMerged = merge >= 0 && merge < made.count;
                left += isMerged ? 0 : 1;
            }
            return left;
        }

        void doWhole(Book book, Tape from, Tape into, Settings with) {
            start(book, from, 0, with);
            // Each merge leaves at least one run less.
            for (int i = 0; i < MOST_RUNS && !isOver(); i++) {
                doMerge();
            }
            writeTo(into);
        }

        void writeTo(Tape into) {
            into.empty();
            int many = now.lengthOf(0);
            for (int i = 0; i < many; i++) {
                into.add(Book.recordOf(now.rankAt(0, i)));
            }
        }
    }

    /** A row of bytes. */
    private static final class Text {
        private final int[] bytes = new int[MOST_TEXT];
        private int size = 0;

        int byteAt(int place) {
            return place >= 0 && place < size && place < MOST_TEXT ? bytes[place] : 0;
        }

        void empty() {
            size = 0;
        }

        void add(int one) {
            if (size >= 0 && size < MOST_TEXT) {
                bytes[size] = one;
                size++;
            }
        }

        void replaceBy(String other) {
            empty();
            for (int i = 0; i < other.length(); i++) {
                add(other.charAt(i));
            }
        }
    }

    /** Reads the text as a program, a statement at a time. */
    private static final class Reader {
        private static final int END = 0;
        private static final int LETTERS = 1;
        private static final int DIGITS = 2;
        private static final int SIGN = 3;
        private static final int OTHER = 4;
        private static final int TOO_GREAT = 1000;

        private final Text text = new Text();
        private final int[] operands = new int[3];
        private final Settings told = new Settings();
        private int wordKind = END;
        private int wordPlace = 0;
        private int wordEnd = 0;
        private int number = 0;
        private int statementPlace = 0;
        private int action = SORTING;
        private int how = UNITE;
        private boolean isLast = false;
        private int faultKind = 0;
        private int faultPlace = NONE;

        void restart() {
            wordEnd = 0;
            faultKind = 0;
            faultPlace = NONE;
        }

        /** The tape that stands first, second, or behind "into". */
        int tapeAt(int slot) {
            return slot >= 0 && slot < operands.length ? operands[slot] : 0;
        }

        /** Returns false if no statement is left, or at a fault. */
        boolean readStatement(Settings office) {
            readWord();
            if (wordKind == END) {
                return false;
            }
            statementPlace = wordPlace;
            told.takeOver(office);
            if (isWord("sort")) {
                return readTransfer(SORTING) && readOptions();
            }
            if (isWord("copy")) {
                return readTransfer(COPYING) && readSign();
            }
            if (isWord("unite")) {
                return readCombining(UNITE);
            }
            if (isWord("common")) {
                return readCombining(COMMON);
            }
            if (isWord("without")) {
                return readCombining(WITHOUT);
            }
            isLast = isWord("last");
            if (isLast || isWord("first")) {
                return readSingle(THINNING);
            }
            if (isWord("turn")) {
                return readSingle(TURNING);
            }
            if (isWord("clear")) {
                return readSingle(CLEARING);
            }
            return refuse(WRONG_WORD);
        }

        private boolean readTransfer(int what) {
            action = what;
            return readTape(0) && readInto() && readTape(2);
        }

        private boolean readCombining(int toDo) {
            action = COMBINING;
            how = toDo;
            return readTape(0) && readTape(1) && readInto() && readTape(2) && readSign();
        }

        private boolean readSingle(int what) {
            action = what;
            return readTape(0) && readSign();
        }

        private boolean readTape(int slot) {
            if (!readNumber(0, TAPES - 1)) {
                return false;
            }
            if (slot >= 0 && slot < operands.length) {
                operands[slot] = number;
            }
            return true;
        }

        private boolean readInto() {
            readWord();
            return isWord("into") || refuse(WRONG_WORD);
        }

        private boolean readSign() {
            readWord();
            return wordKind == SIGN || refuse(WRONG_WORD);
        }

        /** Reads what holds for one sort alone, to the end of the statement. */
        private boolean readOptions() {
            for (int i = 0; i <= MOST_TEXT; i++) {
                readWord();
                if (wordKind == SIGN) {
                    return true;
                }
                if (!readOption()) {
                    return false;
                }
            }
            return false;
        }

        private boolean readOption() {
            if (isWord("up") || isWord("down")) {
                told.order = isWord("up") ? UP : DOWN;
                return true;
            }
            if (isWord("natural")) {
                told.runWay = NATURAL;
                return true;
            }
            if (isWord("full") || isWord("replace")) {
                told.runWay = isWord("full") ? FULL : REPLACEMENT;
                boolean isRead = readNumber(1, MOST_MEMORY);
                told.memory = number;
                return isRead;
            }
            if (isWord("shortest")) {
                told.mergeWay = SHORTEST;
                return true;
            }
            if (isWord("balanced") || isWord("poly")) {
                told.mergeWay = isWord("poly") ? POLYPHASE : BALANCED;
                boolean isRead = readNumber(LEAST_WAYS, MOST_WAYS);
                told.ways = number;
                return isRead;
            }
            return refuse(WRONG_WORD);
        }

        private boolean readNumber(int least, int most) {
            readWord();
            if (wordKind != DIGITS) {
                return refuse(WRONG_WORD);
            }
            number = 0;
            for (int i = wordPlace; i < wordEnd; i++) {
                number = Math.min(TOO_GREAT, number * 10 + text.byteAt(i) - '0');
            }
            return number >= least && number <= most || refuse(WRONG_NUMBER);
        }

        /** Tells the fault at the latest word; its answer is always false. */
        private boolean refuse(int kind) {
            faultKind = kind;
            faultPlace = wordPlace;
            return false;
        }

        private void readWord() {
            wordPlace = wordEnd;
            while (wordPlace < text.size && text.byteAt(wordPlace) == ' ') {
                wordPlace++;
            }
            wordKind = kindOf(text.byteAt(wordPlace));
            wordEnd = wordPlace;
            if (wordKind == LETTERS || wordKind == DIGITS) {
                while (wordEnd < text.size && kindOf(text.byteAt(wordEnd)) == wordKind) {
                    wordEnd++;
                }
            } else if (wordKind != END) {
                wordEnd++;
            }
        }

        /** The text gives 0, which no byte of it is, behind its end. */
        private static int kindOf(int one) {
            if (one == 0) {
                return END;
            }
            if (one >= 'a' && one <= 'z') {
                return LETTERS;
            }
            if (one >= '0' && one <= '9') {
                return DIGITS;
            }
            return one == ';' ? SIGN : OTHER;
        }

        private boolean isWord(String word) {
            if (wordKind != LETTERS || wordEnd - wordPlace != word.length()) {
                return false;
            }
            for (int i = 0; i < word.length(); i++) {
                if (text.byteAt(wordPlace + i) != word.charAt(i)) {
                    return false;
                }
            }
            return true;
        }
    }

    /** Sorts a tape in all ways and counts what does not come out as the theorem says. */
    private static final class Checker {
        private final RunMaker maker = new RunMaker();
        private final Job trial = new Job();
        private final Plan told = new Plan();
        private final Settings with = new Settings();
        private final RunRow runRow = new RunRow();
        private final Tape out = new Tape();
        private final int[] times = new int[MOST_RECORDS];
        private int failures = 0;

        int countFailures(Book book, Tape tape, Settings office) {
            failures = 0;
            with.takeOver(office);
            for (int runWay = FULL; runWay <= NATURAL; runWay++) {
                with.runWay = runWay;
                maker.makeRuns(book, tape, with, runRow);
                if (runWay == REPLACEMENT) {
                    checkReplacement(book, tape);
                }
                for (int mergeWay = BALANCED; mergeWay <= POLYPHASE; mergeWay++) {
                    with.mergeWay = mergeWay;
                    checkSort(book, tape);
                }
            }
            return failures;
        }

        private void demand(boolean holds) {
            failures += holds ? 0 : 1;
        }

        /** Each run but the last one fills the memory at least, and a tape in order is one run. */
        private void checkReplacement(Book book, Tape tape) {
            for (int run = 0; run + 1 < runRow.count; run++) {
                demand(runRow.lengthOf(run) >= with.memory);
            }
            demand(runRow.count <= 1 || !tape.isInOrder(book, with.order));
        }

        private void checkSort(Book book, Tape tape) {
            trial.doWhole(book, tape, out, with);
            demand(out.isInOrder(book, with.order));
            demand(hasSameRecords(tape));
            told.tell(runRow, with);
            demand(told.passes == trial.passes);
            demand(told.merges == trial.merges);
            demand(told.moves + tape.size == trial.moves);
            if (with.mergeWay == BALANCED) {
                demand(told.passes == passesNeeded());
            }
            if (with.mergeWay == SHORTEST) {
                int moves = told.moves;
                demand(told.fewestMoves(runRow) == moves);
            }
        }

        private boolean hasSameRecords(Tape tape) {
            for (int i = 0; i < MOST_RECORDS; i++) {
                times[i] = 0;
            }
            countRecords(tape, 1);
            countRecords(out, -1);
            for (int i = 0; i < MOST_RECORDS; i++) {
                if (times[i] != 0) {
                    return false;
                }
            }
            return true;
        }

        private void countRecords(Tape tape, int weight) {
            for (int i = 0; i < tape.size; i++) {
                int record = tape.recordAt(i);
                if (record >= 0 && record < MOST_RECORDS) {
                    times[record] += weight;
                }
            }
        }

        /** The least number of passes by which so many ways can reach all runs. */
        private int passesNeeded() {
            int passes = 0;
            for (int reached = 1; reached < runRow.count && passes < MOST_RUNS; reached *= with.ways) {
                passes++;
            }
            return passes;
        }
    }
}
