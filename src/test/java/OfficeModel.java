import java.util.ArrayList;
import java.util.Collections;
import java.util.List;
import java.util.NoSuchElementException;

/** The document's words once more, with the Java library and without thrift: what RunmergeOffice is held against. */
final class OfficeModel {
    static final class Config {
        int order = 0, runWay = 1, memory = 4, mergeWay = 0, ways = 2;
        Config copy() {
            Config c = new Config();
            c.order = order; c.runWay = runWay; c.memory = memory; c.mergeWay = mergeWay; c.ways = ways;
            return c;
        }
    }

    final List<int[]> records = new ArrayList<>();
    List<List<Integer>> tapes = new ArrayList<>();
    Config config = new Config();
    ModelJob job = null;
    String text = "";

    OfficeModel() {
        for (int i = 0; i < 8; i++) tapes.add(new ArrayList<>());
    }

    // ---- terms ----

    boolean before(int a, int b, int order) {
        int ka = records.get(a)[0], kb = records.get(b)[0];
        if (ka == kb) return a < b;
        return order == 0 ? ka < kb : ka > kb;
    }

    boolean inOrder(List<Integer> row, int order) {
        for (int i = 0; i + 1 < row.size(); i++) if (before(row.get(i + 1), row.get(i), order)) return false;
        return true;
    }

    List<Integer> ordered(List<Integer> row, int order) {
        List<Integer> r = new ArrayList<>(row);
        r.sort((a, b) -> before(a, b, order) ? -1 : before(b, a, order) ? 1 : 0);
        return r;
    }

    List<List<Integer>> makeRuns(List<Integer> tape, Config c) {
        List<List<Integer>> out = new ArrayList<>();
        if (c.runWay == 0) {
            for (int i = 0; i < tape.size(); i += c.memory)
                out.add(ordered(tape.subList(i, Math.min(tape.size(), i + c.memory)), c.order));
        } else if (c.runWay == 2) {
            for (int i = 0; i < tape.size(); i++) {
                if (i == 0 || before(tape.get(i), tape.get(i - 1), c.order)) out.add(new ArrayList<>());
                out.get(out.size() - 1).add(tape.get(i));
            }
        } else {
            List<Integer> rest = new ArrayList<>(tape), memory = new ArrayList<>(), later = new ArrayList<>();
            while (!rest.isEmpty() && memory.size() < c.memory) memory.add(rest.remove(0));
            while (!memory.isEmpty()) {
                List<Integer> run = new ArrayList<>();
                while (!memory.isEmpty()) {
                    int gone = ordered(memory, c.order).get(0);
                    memory.remove((Integer) gone);
                    run.add(gone);
                    if (!rest.isEmpty()) {
                        int next = rest.remove(0);
                        (before(next, gone, c.order) ? later : memory).add(next);
                    }
                }
                out.add(run);
                memory = later;
                later = new ArrayList<>();
            }
        }
        return out;
    }

    static int sum(List<Integer> l) {
        int s = 0;
        for (int i : l) s += i;
        return s;
    }

    final class ModelJob {
        final Config c;
        final int target;
        int level = 0, passes = 0, merges = 0, moves, lost = 0, torn = 0, passMoves = 0, nonEmpty;
        // BALANCED and SHORTEST: one row; POLYPHASE: as many as ways
        List<List<List<Integer>>> rows = new ArrayList<>();
        List<List<Integer>> made = new ArrayList<>();
        List<List<List<Integer>>> kept;

        ModelJob(List<Integer> tape, int target, Config c) {
            this.c = c.copy();
            this.target = target;
            List<List<Integer>> runs = makeRuns(tape, c);
            nonEmpty = runs.size();
            moves = tape.size();
            if (c.mergeWay == 2 && !runs.isEmpty()) {
                List<Integer> numbers = new ArrayList<>(Collections.nCopies(c.ways, 0));
                numbers.set(0, 1);
                while (sum(numbers) < runs.size()) {
                    List<Integer> next = new ArrayList<>();
                    for (int i = 0; i < c.ways; i++)
                        next.add(i == c.ways - 1 ? numbers.get(0) : numbers.get(0) + numbers.get(i + 1));
                    numbers = next;
                    level++;
                }
                for (int n : numbers) {
                    List<List<Integer>> row = new ArrayList<>();
                    for (int i = 0; i < n; i++) row.add(runs.isEmpty() ? new ArrayList<>() : runs.remove(0));
                    rows.add(row);
                }
            } else {
                rows.add(runs);
            }
            keep();
        }

        void keep() {
            kept = new ArrayList<>();
            for (List<List<Integer>> row : rows) kept.add(new ArrayList<>(row));
            passMoves = 0;
            made = new ArrayList<>();
        }

        int count() {
            int n = made.size();
            for (List<List<Integer>> row : rows) n += row.size();
            return n;
        }

        boolean isOver() {
            int n = 0;
            for (List<List<Integer>> row : kept) n += row.size();
            return n <= 1;
        }

        List<Integer> outcome() {
            for (List<List<Integer>> row : kept) for (List<Integer> run : row) return run;
            return new ArrayList<>();
        }

        void merge() {
            List<Integer> all = new ArrayList<>();
            boolean passOver;
            if (c.mergeWay == 0) {
                List<List<Integer>> row = rows.get(0);
                for (int i = 0; i < c.ways && !row.isEmpty(); i++) all.addAll(row.remove(0));
                made.add(ordered(all, c.order));
                passOver = row.size() <= 1;
                if (passOver) { made.addAll(row); rows = new ArrayList<>(); rows.add(made); }
            } else if (c.mergeWay == 1) {
                List<List<Integer>> row = rows.get(0);
                for (int i = 0; i < 2; i++) {
                    List<Integer> best = row.get(0);
                    int at = 0;
                    for (int j = 0; j < row.size(); j++) if (row.get(j).size() < best.size()) { best = row.get(j); at = j; }
                    row.remove(at);
                    all.addAll(best);
                }
                row.add(ordered(all, c.order));
                passOver = true;
            } else {
                for (List<List<Integer>> row : rows) all.addAll(row.remove(0));
                made.add(ordered(all, c.order));
                passOver = rows.get(rows.size() - 1).isEmpty();
                if (passOver) { rows.remove(rows.size() - 1); rows.add(0, made); }
            }
            merges++;
            moves += all.size();
            passMoves += all.size();
            if (passOver) { passes++; keep(); }
        }

        int tear() {
            int l = passMoves;
            lost += l;
            torn++;
            rows = kept;
            keep();
            return l;
        }
    }

    ModelJob whole(List<Integer> tape, Config c) {
        ModelJob j = new ModelJob(tape, 0, c);
        while (!j.isOver()) j.merge();
        return j;
    }

    // ---- the face ----

    List<Integer> tape(int t) {
        if (t < 0 || t > 7) throw new IndexOutOfBoundsException();
        return tapes.get(t);
    }

    List<Integer> sorted(int t) {
        List<Integer> l = tape(t);
        if (!inOrder(l, 0)) throw new IllegalStateException();
        return l;
    }

    static void range(long v, long low, long high) {
        if (v < low || v > high) throw new IllegalArgumentException();
    }

    void room(List<Integer> l, int many) {
        if (records.size() + many > 200 || l.size() + many > 100) throw new IllegalStateException();
    }

    int make(List<Integer> l, int key, int mark) {
        records.add(new int[] {key, mark});
        l.add(records.size() - 1);
        return records.size() - 1;
    }

    int put(int t, int key, int mark) {
        List<Integer> l = tape(t);
        range(key, -999, 999); range(mark, 0, 9999); room(l, 1);
        return make(l, key, mark);
    }

    int fill(int t, int first, int step, int many) {
        List<Integer> l = tape(t);
        range(first, -999, 999); range(step, -50, 50); range(many, 0, 50);
        for (int i = 0; i < many; i++) range(first + i * step, -999, 999);
        room(l, many);
        for (int i = 0; i < many; i++) make(l, first + i * step, 0);
        return l.size();
    }

    int scatter(int t, int many, int range, int seed) {
        List<Integer> l = tape(t);
        range(many, 0, 50); range(range, 1, 999); range(seed, 0, Integer.MAX_VALUE); room(l, many);
        java.math.BigInteger x = java.math.BigInteger.valueOf(seed);
        for (int i = 0; i < many; i++) {
            x = x.multiply(java.math.BigInteger.valueOf(1103515245)).add(java.math.BigInteger.valueOf(12345))
                .mod(java.math.BigInteger.ONE.shiftLeft(31));
            make(l, (int) (x.longValue() / 65536 % range), 0);
        }
        return l.size();
    }

    int[] record(int r) {
        if (r < 0 || r >= records.size()) throw new IndexOutOfBoundsException();
        return records.get(r);
    }

    int at(int t, int place) {
        List<Integer> l = tape(t);
        if (place < 0 || place >= l.size()) throw new IndexOutOfBoundsException();
        return l.get(place);
    }

    int digest(int t) {
        int d = 7;
        for (int r : tape(t)) d = 31 * d + r;
        return d;
    }

    boolean isSorted(int t, int order) {
        List<Integer> l = tape(t);
        range(order, 0, 1);
        return inOrder(l, order);
    }

    int clear(int t) { int n = tape(t).size(); tape(t).clear(); return n; }
    int copy(int t, int to) { tape(t); tape(to); tapes.set(to, new ArrayList<>(tape(t))); return tape(to).size(); }
    int turn(int t) { Collections.reverse(tape(t)); return tape(t).size(); }

    int setRuns(int order, int way, int memory) {
        range(order, 0, 1); range(way, 0, 2); range(memory, 1, 50);
        int b = config.memory;
        config.order = order; config.runWay = way; config.memory = memory;
        return b;
    }

    int setMerge(int way, int ways) {
        range(way, 0, 2); range(ways, 2, 6);
        int b = config.ways;
        config.mergeWay = way; config.ways = ways;
        return b;
    }

    int setting(int what) {
        range(what, 0, 4);
        return new int[] {config.order, config.runWay, config.memory, config.mergeWay, config.ways}[what];
    }

    int runs(int t) { return makeRuns(tape(t), config).size(); }

    List<Integer> theRun(int t, int run) {
        List<List<Integer>> l = makeRuns(tape(t), config);
        if (run < 0 || run >= l.size()) throw new IndexOutOfBoundsException();
        return l.get(run);
    }

    int runLength(int t, int run) { return theRun(t, run).size(); }

    int runAt(int t, int run, int place) {
        List<Integer> l = theRun(t, run);
        if (place < 0 || place >= l.size()) throw new IndexOutOfBoundsException();
        return l.get(place);
    }

    int plan(int t, int what) {
        List<Integer> l = tape(t);
        range(what, 0, 3);
        ModelJob j = whole(l, config);
        return new int[] {j.passes, j.moves - l.size(), j.merges, j.level}[what];
    }

    int leastMoves(int t) {
        List<Integer> lengths = new ArrayList<>();
        for (List<Integer> r : makeRuns(tape(t), config)) lengths.add(r.size());
        int cost = 0;
        while (lengths.size() > 1) {
            Collections.sort(lengths);
            int s = lengths.remove(0) + lengths.remove(0);
            cost += s;
            lengths.add(s);
        }
        return cost;
    }

    int begin(int t, int to) {
        List<Integer> l = tape(t);
        tape(to);
        job = new ModelJob(l, to, config);
        int n = job.nonEmpty;
        if (job.isOver()) tapes.set(to, new ArrayList<>(job.outcome()));
        return n;
    }

    void underWay() { if (job == null || job.isOver()) throw new IllegalStateException(); }

    int work(int merges) {
        range(merges, 1, 200);
        underWay();
        int did = 0;
        while (did < merges && !job.isOver()) { job.merge(); did++; }
        if (job.isOver()) tapes.set(job.target, new ArrayList<>(job.outcome()));
        return did;
    }

    int tear() { underWay(); return job.tear(); }

    int job(int what) {
        range(what, 0, 7);
        if (job == null) throw new IllegalStateException();
        return new int[] {job.target, job.isOver() ? 1 : 0, job.count(), job.passes, job.merges, job.moves, job.lost,
            job.torn}[what];
    }

    int sort(int t, int to) { tape(to); return sortWith(t, to, config); }

    int sortWith(int t, int to, Config c) {
        ModelJob j = whole(tape(t), c);
        tapes.set(to, new ArrayList<>(j.outcome()));
        return j.moves;
    }

    int keyOf(int r) { return records.get(r)[0]; }

    int combine(int t, int other, int to, int how) {
        List<Integer> a = tape(t), b = tape(other), out = new ArrayList<>();
        tape(to);
        range(how, 0, 2);
        if (!inOrder(a, 0) || !inOrder(b, 0)) throw new IllegalStateException();
        if (how == 0) {
            out.addAll(a);
            out.addAll(b);
            out = ordered(out, 0);
        } else {
            for (int r : a) {
                boolean has = false;
                for (int s : b) has |= keyOf(s) == keyOf(r);
                if (has == (how == 1)) out.add(r);
            }
        }
        if (out.size() > 100) throw new IllegalStateException();
        tapes.set(to, out);
        return out.size();
    }

    int thin(int t, boolean last) {
        List<Integer> l = tape(t), out = new ArrayList<>();
        int i = 0;
        while (i < l.size()) {
            int j = i;
            while (j + 1 < l.size() && keyOf(l.get(j + 1)) == keyOf(l.get(i))) j++;
            out.add(l.get(last ? j : i));
            i = j + 1;
        }
        int n = l.size() - out.size();
        tapes.set(t, out);
        return n;
    }

    int find(int t, int key) {
        List<Integer> l = sorted(t);
        for (int i = 0; i < l.size(); i++) if (keyOf(l.get(i)) == key) return i;
        return -1;
    }

    int floor(int t, int key) {
        Integer best = null;
        for (int r : sorted(t)) if (keyOf(r) <= key && (best == null || keyOf(r) > best)) best = keyOf(r);
        if (best == null) throw new NoSuchElementException();
        return best;
    }

    int ceiling(int t, int key) {
        Integer best = null;
        for (int r : sorted(t)) if (keyOf(r) >= key && (best == null || keyOf(r) < best)) best = keyOf(r);
        if (best == null) throw new NoSuchElementException();
        return best;
    }

    int between(int t, int from, int to) {
        int n = 0;
        for (int r : sorted(t)) if (keyOf(r) >= from && keyOf(r) <= to) n++;
        return n;
    }

    int keys(int t) {
        java.util.Set<Integer> s = new java.util.HashSet<>();
        for (int r : sorted(t)) s.add(keyOf(r));
        return s.size();
    }

    int type(long bytes) {
        String more = "";
        for (byte b : java.nio.ByteBuffer.allocate(8).putLong(bytes).array()) if (b != 0) more += (char) (b & 255);
        if (text.length() + more.length() > 160) throw new IllegalStateException();
        text += more;
        return text.length();
    }

    int clearText() { int n = text.length(); text = ""; return n; }

    int example(int which) {
        range(which, 0, 2);
        text = new String[] {
            "sort 0 into 1; sort 0 into 2 full 3 poly 3; sort 0 into 3 natural shortest; first 3;",
            "sort 0 into 0 replace 2 balanced 3; sort 1 into 1; common 0 1 into 2; without 0 1 into 3; unite 2 3 into 4;",
            "copy 0 into 5; turn 5; sort 5 into 6 down full 1; last 6; clear 5;"}[which];
        return text.length();
    }

    int errors(int t) { tape(t); return 0; }

    double meanKey(int t) {
        long s = 0;
        for (int r : tape(t)) s += keyOf(r);
        return tape(t).isEmpty() ? 0.0 : (double) s / (double) tape(t).size();
    }

    float sortedShare() {
        int n = 0;
        for (List<Integer> l : tapes) if (inOrder(l, 0)) n++;
        return (float) n / 8.0f;
    }

    // ---- programs ----

    static final class Fault extends RuntimeException {
        final int kind, place;
        Fault(int kind, int place) { this.kind = kind; this.place = place; }
    }

    record Word(String word, int place) { }

    record Step(List<String> words, int place) { }

    /** Words are looked up when they are wanted, so that a bad byte is a fault only when all before it is right. */
    final class Parser {
        int at = 0;

        Word next() {
            while (at < text.length() && text.charAt(at) == ' ') at++;
            if (at == text.length()) return new Word("", at);
            java.util.regex.Matcher m = java.util.regex.Pattern.compile("[a-z]+|[0-9]+|;").matcher(text).region(at, text.length());
            if (!m.lookingAt()) throw new Fault(1, at);
            Word w = new Word(m.group(), at);
            at = m.end();
            return w;
        }

        String must(String pattern) {
            Word w = next();
            if (!w.word.matches(pattern)) throw new Fault(1, w.place);
            return w.word;
        }

        String number(int low, int high) {
            Word w = next();
            if (!w.word.matches("[0-9]+")) throw new Fault(1, w.place);
            java.math.BigInteger v = new java.math.BigInteger(w.word);
            if (v.compareTo(java.math.BigInteger.valueOf(low)) < 0 || v.compareTo(java.math.BigInteger.valueOf(high)) > 0)
                throw new Fault(2, w.place);
            return v.toString();
        }

        List<Step> program() {
            List<Step> out = new ArrayList<>();
            while (true) {
                Word w = next();
                if (w.word.isEmpty()) return out;
                List<String> s = new ArrayList<>();
                s.add(w.word);
                if (w.word.matches("sort|copy")) {
                    s.add(number(0, 7)); must("into"); s.add(number(0, 7));
                    if (w.word.equals("copy")) must(";"); else options(s);
                } else if (w.word.matches("unite|common|without")) {
                    s.add(number(0, 7)); s.add(number(0, 7)); must("into"); s.add(number(0, 7)); must(";");
                } else if (w.word.matches("first|last|turn|clear")) {
                    s.add(number(0, 7)); must(";");
                } else {
                    throw new Fault(1, w.place);
                }
                out.add(new Step(s, w.place));
            }
        }

        void options(List<String> s) {
            while (true) {
                String o = must("up|down|full|replace|natural|balanced|shortest|poly|;");
                if (o.equals(";")) return;
                s.add(o);
                if (o.matches("full|replace")) s.add(number(1, 50));
                if (o.matches("balanced|poly")) s.add(number(2, 6));
            }
        }
    }

    int doText() {
        List<Step> steps = new Parser().program();
        for (Step s : steps) {
            try {
                doStep(s.words);
            } catch (IllegalStateException e) {
                throw new Fault(3, s.place);
            }
        }
        return steps.size();
    }

    void doStep(List<String> w) {
        int a = Integer.parseInt(w.get(1));
        switch (w.get(0)) {
            case "sort": {
                Config c = config.copy();
                for (int i = 3; i < w.size(); i++) {
                    switch (w.get(i)) {
                        case "up": c.order = 0; break;
                        case "down": c.order = 1; break;
                        case "full": c.runWay = 0; c.memory = Integer.parseInt(w.get(++i)); break;
                        case "replace": c.runWay = 1; c.memory = Integer.parseInt(w.get(++i)); break;
                        case "natural": c.runWay = 2; break;
                        case "balanced": c.mergeWay = 0; c.ways = Integer.parseInt(w.get(++i)); break;
                        case "shortest": c.mergeWay = 1; break;
                        case "poly": c.mergeWay = 2; c.ways = Integer.parseInt(w.get(++i)); break;
                        default: throw new AssertionError();
                    }
                }
                sortWith(a, Integer.parseInt(w.get(2)), c);
                break;
            }
            case "copy": copy(a, Integer.parseInt(w.get(2))); break;
            case "unite": combine(a, Integer.parseInt(w.get(2)), Integer.parseInt(w.get(3)), 0); break;
            case "common": combine(a, Integer.parseInt(w.get(2)), Integer.parseInt(w.get(3)), 1); break;
            case "without": combine(a, Integer.parseInt(w.get(2)), Integer.parseInt(w.get(3)), 2); break;
            case "first": thin(a, false); break;
            case "last": thin(a, true); break;
            case "turn": turn(a); break;
            case "clear": clear(a); break;
            default: throw new AssertionError();
        }
    }

    List<List<Integer>> copyOfTapes() {
        List<List<Integer>> c = new ArrayList<>();
        for (List<Integer> l : tapes) c.add(new ArrayList<>(l));
        return c;
    }

    int[] fault() {
        List<List<Integer>> before = copyOfTapes();
        try {
            doText();
            return new int[] {0, -1};
        } catch (Fault f) {
            return new int[] {f.kind, f.place};
        } finally {
            tapes = before;
        }
    }

    int run() {
        List<List<Integer>> before = copyOfTapes();
        try {
            return doText();
        } catch (Fault f) {
            tapes = before;
            throw new IllegalStateException();
        }
    }
}
