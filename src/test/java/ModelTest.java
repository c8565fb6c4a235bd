import java.util.NoSuchElementException;
import java.util.Random;

/** Random runs of calls on the office and on the model; each answer must be the same. */
public final class ModelTest {
    interface Call { Object answer(); }

    static int wrong = 0;
    static final java.util.Map<String, Integer> SEEN = new java.util.TreeMap<>();

    static String outcome(Call c) {
        try {
            return String.valueOf(c.answer());
        } catch (IndexOutOfBoundsException e) {
            return e.getClass() == IndexOutOfBoundsException.class ? "IndexOutOfBounds" : "machine " + e;
        } catch (IllegalArgumentException e) {
            return e.getClass() == IllegalArgumentException.class ? "IllegalArgument" : "machine " + e;
        } catch (IllegalStateException e) {
            return e.getClass() == IllegalStateException.class ? "IllegalState" : "machine " + e;
        } catch (NoSuchElementException e) {
            return "NoSuchElement";
        } catch (RuntimeException e) {
            return "machine " + e;
        }
    }

    static void same(int run, int call, String what, Call mine, Call due) {
        String a = outcome(mine), b = outcome(due);
        String kind = what.substring(0, what.indexOf('('))
            + (b.matches("[A-Z][A-Za-z]+") ? " " + b : what.startsWith("error") && what.indexOf("Place") < 0 ? " " + b
            : what.startsWith("tear") && !b.equals("0") ? " lost" : "");
        SEEN.merge(kind, 1, Integer::sum);
        if (!a.equals(b)) {
            wrong++;
            if (wrong < 20) System.out.println("run " + run + ", call " + call + ": " + what + " answered " + a + ", due is " + b);
        }
    }

    static int pick(Random r, int low, int high) {
        int kind = r.nextInt(60);
        if (kind == 0) return low - 1;
        if (kind == 1) return high + 1;
        if (kind == 2) return r.nextInt();
        if (kind == 3) return low;
        if (kind == 4) return high;
        return low + r.nextInt(high - low + 1);
    }

    static String word(Random r, String words) {
        String[] w = words.split(" ");
        return w[r.nextInt(w.length)];
    }

    static String number(Random r, int low, int high) {
        if (r.nextInt(80) == 0) return word(r, "8 99 0 1 7 51 50 00007 000 99999999999 x ; - into");
        return String.valueOf(low + r.nextInt(high - low + 1));
    }

    static String gap(Random r) { return r.nextInt(9) == 0 ? "" : r.nextInt(12) == 0 ? "  " : " "; }

    static String statement(Random r, int tapes) {
        StringBuilder s = new StringBuilder();
        String g = gap(r);
        String what = word(r, "sort sort sort unite common without copy first last turn clear");
        s.append(what).append(g).append(number(r, 0, tapes));
        if (what.matches("unite|common|without")) s.append(' ').append(number(r, 0, tapes));
        if (what.matches("sort|unite|common|without|copy")) s.append(gap(r)).append("into").append(gap(r)).append(number(r, 0, tapes));
        if (what.equals("sort")) {
            int many = r.nextInt(4);
            for (int i = 0; i < many; i++) {
                String o = word(r, "up down full replace natural balanced shortest poly");
                s.append(' ').append(o);
                if (o.matches("full|replace")) s.append(gap(r)).append(number(r, 1, r.nextBoolean() ? 4 : 50));
                if (o.matches("balanced|poly")) s.append(gap(r)).append(number(r, 2, 6));
            }
        }
        return s.append(gap(r)).append(';').toString();
    }

    static String program(Random r) {
        StringBuilder s = new StringBuilder();
        int many = r.nextInt(7), tapes = r.nextBoolean() ? 2 : 7;
        for (int i = 0; i < many; i++) s.append(statement(r, tapes)).append(gap(r));
        if (r.nextInt(5) == 0 && s.length() > 0) {
            int at = r.nextInt(s.length());
            switch (r.nextInt(3)) {
                case 0: s.setLength(at); break;
                case 1: s.deleteCharAt(at); break;
                default: s.insert(at, word(r, "x A ; 9 \u0001 \u00ff sort into 12 ! up"));
            }
        }
        if (s.length() > 160) s.setLength(160);
        return s.toString();
    }

    static void typeProgram(int run, int call, Random r, RunmergeOffice o, OfficeModel m) {
        same(run, call, "clearText()", o::clearText, m::clearText);
        String p = program(r);
        int at = 0;
        while (at < p.length()) {
            int many = Math.min(p.length() - at, 1 + r.nextInt(8));
            long v = 0;
            for (int i = 0; i < many; i++) v = v << 8 | p.charAt(at + i);
            if (many < 8 && r.nextBoolean()) v <<= 8;
            at += many;
            long bytes = v;
            same(run, call, "type(" + bytes + ")", () -> o.type(bytes), () -> m.type(bytes));
        }
    }

    /** Some runs of calls look at jobs, at programs or at sorted tapes more than at the rest. */
    static int chosen(Random r, int focus) {
        int[][] favoured = {{}, {2, 13, 15, 21, 24, 24, 25, 26, 26, 26, 28, 28, 29}, {40, 40, 42, 42, 43, 31}, {31, 31, 32, 33, 34, 35, 36, 37, 38, 39}};
        int[] some = favoured[focus];
        if (some.length > 0 && r.nextInt(3) > 0) return some[r.nextInt(some.length)];
        int one = r.nextInt(45);
        return (one == 10 || one == 11) && r.nextInt(3) > 0 ? chosen(r, focus) : one;
    }

    static void fillTapes(int run, Random r, RunmergeOffice o, OfficeModel m, int tapes, int focus) {
        int many = focus == 1 ? 6 : r.nextInt(6);
        for (int i = 0; i < many; i++) {
            int t = focus == 1 ? i / 2 : r.nextInt(tapes + 1), n = r.nextInt(focus == 1 || r.nextBoolean() ? 51 : 16), g = 1 + r.nextInt(r.nextBoolean() ? 12 : 999), x = r.nextInt() >>> 1;
            same(run, -1, "scatter(" + t + "," + n + "," + g + "," + x + ")", () -> o.scatter(t, n, g, x), () -> m.scatter(t, n, g, x));
        }
    }

    static void oneCall(int run, int call, Random r, RunmergeOffice o, OfficeModel m, int tapes, int focus) {
        int t = pick(r, 0, tapes), u = pick(r, 0, tapes), v = pick(r, 0, tapes);
        switch (chosen(r, focus)) {
            case 0: { int k = pick(r, -999, 999), x = pick(r, 0, 9999);
                same(run, call, "put(" + t + "," + k + "," + x + ")", () -> o.put(t, k, x), () -> m.put(t, k, x)); break; }
            case 1: { int f = pick(r, -999, 999), s = pick(r, -50, 50), n = pick(r, 0, r.nextInt(4) == 0 ? 50 : 6);
                same(run, call, "fill(" + t + "," + f + "," + s + "," + n + ")", () -> o.fill(t, f, s, n), () -> m.fill(t, f, s, n)); break; }
            case 2: { int n = pick(r, 0, r.nextInt(4) == 0 ? 50 : 8), g = pick(r, 1, r.nextBoolean() ? 9 : 999), s = r.nextInt() >>> (r.nextInt(10) == 0 ? 0 : 1);
                same(run, call, "scatter(" + t + "," + n + "," + g + "," + s + ")", () -> o.scatter(t, n, g, s), () -> m.scatter(t, n, g, s)); break; }
            case 3: same(run, call, "records()", o::records, m.records::size); break;
            case 4: { int k = pick(r, 0, 199); same(run, call, "key(" + k + ")", () -> o.key(k), () -> m.record(k)[0]); break; }
            case 5: { int k = pick(r, 0, 199); same(run, call, "mark(" + k + ")", () -> o.mark(k), () -> m.record(k)[1]); break; }
            case 6: same(run, call, "length(" + t + ")", () -> o.length(t), () -> m.tape(t).size()); break;
            case 7: { int p = pick(r, 0, 20); same(run, call, "at(" + t + "," + p + ")", () -> o.at(t, p), () -> m.at(t, p)); break; }
            case 8: same(run, call, "digest(" + t + ")", () -> o.digest(t), () -> m.digest(t)); break;
            case 9: { int p = pick(r, 0, 1); same(run, call, "isSorted(" + t + "," + p + ")", () -> o.isSorted(t, p), () -> m.isSorted(t, p)); break; }
            case 10: if (r.nextInt(4) == 0) same(run, call, "clear(" + t + ")", () -> o.clear(t), () -> m.clear(t)); break;
            case 11: same(run, call, "copy(" + t + "," + u + ")", () -> o.copy(t, u), () -> m.copy(t, u)); break;
            case 12: same(run, call, "turn(" + t + ")", () -> o.turn(t), () -> m.turn(t)); break;
            case 13: case 14: { int a = pick(r, 0, 1), b = pick(r, 0, 2), c = pick(r, 1, r.nextInt(4) > 0 ? 3 : 50);
                same(run, call, "setRuns(" + a + "," + b + "," + c + ")", () -> o.setRuns(a, b, c), () -> m.setRuns(a, b, c)); break; }
            case 15: case 16: { int a = pick(r, 0, 2), b = pick(r, 2, 6);
                same(run, call, "setMerge(" + a + "," + b + ")", () -> o.setMerge(a, b), () -> m.setMerge(a, b)); break; }
            case 17: { int a = pick(r, 0, 4); same(run, call, "setting(" + a + ")", () -> o.setting(a), () -> m.setting(a)); break; }
            case 18: same(run, call, "runs(" + t + ")", () -> o.runs(t), () -> m.runs(t)); break;
            case 19: { int a = pick(r, 0, 9); same(run, call, "runLength(" + t + "," + a + ")", () -> o.runLength(t, a), () -> m.runLength(t, a)); break; }
            case 20: { int a = pick(r, 0, 5), b = pick(r, 0, 5);
                same(run, call, "runAt(" + t + "," + a + "," + b + ")", () -> o.runAt(t, a, b), () -> m.runAt(t, a, b)); break; }
            case 21: case 22: { int a = pick(r, 0, 3); same(run, call, "plan(" + t + "," + a + ")", () -> o.plan(t, a), () -> m.plan(t, a)); break; }
            case 23: same(run, call, "leastMoves(" + t + ")", () -> o.leastMoves(t), () -> m.leastMoves(t)); break;
            case 24: same(run, call, "begin(" + t + "," + u + ")", () -> o.begin(t, u), () -> m.begin(t, u)); break;
            case 25: case 26: case 27: { int a = r.nextInt(8) == 0 ? pick(r, 1, 200) : 1 + r.nextInt(7);
                same(run, call, "work(" + a + ")", () -> o.work(a), () -> m.work(a)); break; }
            case 28: same(run, call, "tear()", o::tear, m::tear); break;
            case 29: case 30: { int a = pick(r, 0, 7); same(run, call, "job(" + a + ")", () -> o.job(a), () -> m.job(a)); break; }
            case 31: same(run, call, "sort(" + t + "," + u + ")", () -> o.sort(t, u), () -> m.sort(t, u)); break;
            case 32: case 33: { int h = pick(r, 0, 2);
                same(run, call, "combine(" + t + "," + u + "," + v + "," + h + ")", () -> o.combine(t, u, v, h), () -> m.combine(t, u, v, h)); break; }
            case 34: { boolean b = r.nextBoolean(); same(run, call, "thin(" + t + "," + b + ")", () -> o.thin(t, b), () -> m.thin(t, b)); break; }
            case 35: { int k = key(r, m, t); same(run, call, "find(" + t + "," + k + ")", () -> o.find(t, k), () -> m.find(t, k)); break; }
            case 36: { int k = key(r, m, t); same(run, call, "floor(" + t + "," + k + ")", () -> o.floor(t, k), () -> m.floor(t, k)); break; }
            case 37: { int k = key(r, m, t); same(run, call, "ceiling(" + t + "," + k + ")", () -> o.ceiling(t, k), () -> m.ceiling(t, k)); break; }
            case 38: { int k = key(r, m, t), l = key(r, m, t);
                same(run, call, "between(" + t + "," + k + "," + l + ")", () -> o.between(t, k, l), () -> m.between(t, k, l)); break; }
            case 39: same(run, call, "keys(" + t + ")", () -> o.keys(t), () -> m.keys(t)); break;
            case 40: {
                long x = r.nextInt(5) == 0 ? 0x73L : r.nextLong() & (r.nextBoolean() ? -1L : 0xff00ff0000ff00ffL);
                if (r.nextInt(3) == 0) same(run, call, "type(" + x + ")", () -> o.type(x), () -> m.type(x));
                else typeProgram(run, call, r, o, m);
                break; }
            case 41: { int w = pick(r, 0, 2);
                same(run, call, "example(" + w + ")", () -> o.example(w), () -> m.example(w));
                same(run, call, "textLength()", o::textLength, m.text::length); break; }
            case 42: { int[] f = m.fault();
                if (r.nextBoolean()) same(run, call, "errorKind()", o::errorKind, () -> f[0]);
                else same(run, call, "errorPlace()", o::errorPlace, () -> f[1]);
                break; }
            case 43: same(run, call, "run()", o::run, m::run); break;
            default:
                same(run, call, "errors(" + t + ")", () -> o.errors(t), () -> m.errors(t));
                same(run, call, "meanKey(" + t + ")", () -> o.meanKey(t), () -> m.meanKey(t));
                same(run, call, "sortedShare()", o::sortedShare, m::sortedShare);
        }
    }

    static int key(Random r, OfficeModel m, int t) {
        if (r.nextInt(3) == 0 || t < 0 || t > 7 || m.tapes.get(t).isEmpty()) return pick(r, -999, 999);
        return m.keyOf(m.tapes.get(t).get(r.nextInt(m.tapes.get(t).size()))) + r.nextInt(3) - 1;
    }

    static void wholeState(int run, int call, RunmergeOffice o, OfficeModel m) {
        for (int i = 0; i < 8; i++) {
            int t = i;
            same(run, call, "digest(" + t + ")", () -> o.digest(t), () -> m.digest(t));
            same(run, call, "job(" + t + ")", () -> o.job(t), () -> m.job(t));
            if (t < 5) same(run, call, "setting(" + t + ")", () -> o.setting(t), () -> m.setting(t));
        }
        same(run, call, "records()", o::records, m.records::size);
        same(run, call, "textLength()", o::textLength, m.text::length);
    }

    public static void main(String[] args) {
        int runs = args.length > 0 ? Integer.parseInt(args[0]) : 1500;
        int first = args.length > 1 ? Integer.parseInt(args[1]) : 0;
        for (int run = first; run < first + runs && wrong == 0; run++) {
            Random r = new Random(run);
            RunmergeOffice o = new RunmergeOffice();
            OfficeModel m = new OfficeModel();
            int tapes = r.nextInt(3) == 0 ? 7 : 2;
            int focus = r.nextInt(4);
            fillTapes(run, r, o, m, tapes, focus);
            for (int call = 0; call < 300 && wrong == 0; call++) {
                oneCall(run, call, r, o, m, tapes, focus);
                if (call % 10 == 9 || call < 30) wholeState(run, call, o, m);
            }
        }
        if (args.length > 0) System.out.println(SEEN);
        System.out.println(wrong == 0 ? "all answers are the model's" : wrong + " answers are not the model's");
        if (wrong != 0) System.exit(1);
    }
}
