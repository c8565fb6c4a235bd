/** The edges of texts and programs (Terms 6, promises 35 to 41). */
public final class ProgramEdgesTest extends Edges {
    private static final String EXAMPLE_0 =
        "sort 0 into 1; sort 0 into 2 full 3 poly 3; sort 0 into 3 natural shortest; first 3;";
    private static final String EXAMPLE_1 =
        "sort 0 into 0 replace 2 balanced 3; sort 1 into 1; common 0 1 into 2; without 0 1 into 3; unite 2 3 into 4;";
    private static final String EXAMPLE_2 =
        "copy 0 into 5; turn 5; sort 5 into 6 down full 1; last 6; clear 5;";

    public static void main(String[] args) {
        typing();
        texts();
        words();
        statements();
        numbers();
        options();
        doings();
        wrongBytes();
        wrongWords();
        earlyEnds();
        wrongNumbers();
        firstErrors();
        thirdKind();
        running();
        end();
    }

    /** The text has no error. */
    private static void right(String text) {
        RunmergeOffice o = new RunmergeOffice();
        write(o, text);
        due(0, o::errorKind);
        due(NONE, o::errorPlace);
        due(true, () -> o.run() >= 0);
    }

    /** The text has this error, in whatever order the calls ask for it, and does not run. */
    private static void fault(RunmergeOffice o, String text, int kind, int place) {
        write(o, "turn");
        due(4, o::errorPlace);
        write(o, text);
        refused(STATE, o, o::run);
        due(place, o::errorPlace);
        write(o, "");
        due(0, o::errorKind);
        write(o, text);
        due(kind, o::errorKind);
        due(place, o::errorPlace);
        due(text.length(), o::textLength);
    }

    private static void fault(String text, int kind, int place) {
        fault(with(2, 1), text, kind, place);
    }

    /** What the text does to an office with the keys 2, 1 and 2 on tape 0, and 2, 5 and 9 on tape 1. */
    private static RunmergeOffice after(String text, int statements) {
        RunmergeOffice o = new RunmergeOffice();
        put(o, 0, 2, 1, 2);
        put(o, 1, 2, 5, 9);
        write(o, text);
        due(statements, o::run);
        return o;
    }

    // ---- the text ----

    private static void typing() {
        test("Puts bytes behind the text: those of a number, the highest one first, without those that are 0.", () -> {
            RunmergeOffice o = new RunmergeOffice();
            due(0, () -> o.type(0));
            due(8, () -> o.type(0x7475726e20303b20L));
            due(0, o::errorKind);
            due(1, o::run);
            due(8, o::clearText);
            due(7, () -> o.type(0x747500726e20303bL));
            due(1, o::run);
            o.clearText();
            due(1, () -> o.type('t' * 0x100000000000000L));
            due(2, () -> o.type('u' * 0x1000000L));
            due(4, () -> o.type('r' * 0x100000000L + 'n'));
            due(5, () -> o.type('7'));
            due(6, () -> o.type(';' * 0x100L));
            due(1, o::run);
            // The highest bit of a number is no sign, and no byte is lost or twisted by it.
            o.clearText();
            due(8, () -> o.type(-1L));
            due(1, o::errorKind);
            due(16, () -> o.type(Long.MAX_VALUE));
            due(17, () -> o.type(Long.MIN_VALUE));
            due(18, () -> o.type(1L));
            o.clearText();
            due(7, () -> o.type(0xa000a0a0a0a0a0a0L));
            due(0, o::errorPlace);
        });
        test("The text (bytes from 1 to 255, at most 160) can be a program.", () -> {
            for (int b = 1; b < 256; b++) {
                RunmergeOffice o = new RunmergeOffice();
                int one = b;
                due(1, () -> o.type(one));
                due(1, o::textLength);
                due(one == ' ' ? 0 : 1, o::errorKind);
            }
            StringBuilder long160 = new StringBuilder("sort 0 into 1");
            while (long160.length() < 159) long160.append(' ');
            long160.append(';');
            right(long160.toString());
            RunmergeOffice o = new RunmergeOffice();
            write(o, long160.toString());
            due(160, o::textLength);
            long160.setCharAt(159, 'x');
            fault(long160.toString(), 1, 159);
            long160.setCharAt(159, ' ');
            fault(long160.toString(), 1, 160);
        });
        test("Returns the length of the text. Throws `IllegalStateException` if it would be above 160", () -> {
            RunmergeOffice o = new RunmergeOffice();
            for (int i = 1; i <= 19; i++) {
                int length = 8 * i;
                due(length, () -> o.type(0x2020202020202020L));
            }
            due(153, () -> o.type(0x20L));
            refused(STATE, o, () -> o.type(0x2020202020202020L));
            refused(STATE, o, () -> o.type(-1L));
            due(160, () -> o.type(0x2020202020202000L));
            due(160, () -> o.type(0));
            refused(STATE, o, () -> o.type(1));
            refused(STATE, o, () -> o.type(Long.MIN_VALUE));
            due(160, o::clearText);
            due(1, () -> o.type(0x20L));
            due(84, () -> o.example(0));
            for (int i = 84; i < 156; i += 8) o.type(0x2020202020202020L);
            due(156, o::textLength);
            refused(STATE, o, () -> o.type(0x2020202020L));
            due(160, () -> o.type(0x20202020L));
        });
    }

    private static void texts() {
        test("Empties the text. Returns its length before.", () -> {
            RunmergeOffice o = new RunmergeOffice();
            due(0, o::clearText);
            o.type(0x787878L);
            due(3, o::clearText);
            due(0, o::clearText);
            due(0, o::textLength);
            due(0, o::errorKind);
            due(NONE, o::errorPlace);
            due(0, o::run);
        });
        test("Returns the length of the text. Returns its length.", () -> {
            RunmergeOffice o = new RunmergeOffice();
            due(0, o::textLength);
            o.type(0xff0001L);
            due(2, o::textLength);
            o.example(2);
            due(66, o::textLength);
        });
        test("Replaces the text by one of these programs: 0: " + EXAMPLE_0 + " 1: " + EXAMPLE_1 + " 2: " + EXAMPLE_2, () -> {
            String[] texts = {EXAMPLE_0, EXAMPLE_1, EXAMPLE_2};
            int[] statements = {4, 5, 5};
            for (int i = 0; i < 3; i++) {
                int which = i;
                RunmergeOffice o = with(3, 1, 2, 2, 3), written = with(3, 1, 2, 2, 3);
                put(o, 1, 2, 7);
                put(written, 1, 2, 7);
                o.type(0x7878787878L);
                due(texts[i].length(), () -> o.example(which));
                write(written, texts[i]);
                due(0, o::errorKind);
                due(statements[i], o::run);
                due(statements[i], written::run);
                due(state(written), () -> state(o));
                due(texts[i].length(), o::clearText);
            }
        });
        test("- `which`: 0 to 2 Returns the length of the text.", () -> {
            RunmergeOffice o = new RunmergeOffice();
            due(84, () -> o.example(0));
            due(107, () -> o.example(1));
            due(66, () -> o.example(2));
            for (int which : new int[] {-1, 3, LOWEST, HIGHEST}) refused(ARGUMENT, o, () -> o.example(which));
            due(66, o::textLength);
        });
    }

    // ---- words and statements ----

    private static void words() {
        test("Blanks (32) separate words and mean nothing else", () -> {
            right("");
            right(" ");
            right("          ");
            right("turn 0;");
            right("  turn   0  ;  ");
            right("turn 0 ; turn 1 ;");
            right("turn 0;turn 1;");
            right("sort 0 into 1 full 3 poly 3 ;");
            due(0, () -> after("    ", 0).errorKind());
            fault("tu rn 0;", 1, 0);
            fault("sort 0 in to 1;", 1, 7);
            fault("sort 0 into 1 full 5 0;", 1, 21);
        });
        test("a word is a row of letters a to z or of digits, as long as possible; ; is a sign.", () -> {
            right("turn0;");
            right("unite 0 1into 2;");
            right("sort0into1down;");
            right("sort0into1full50poly6up;clear7;");
            fault("turna 0;", 1, 0);
            fault("turnz 0;", 1, 0);
            fault("aturn 0;", 1, 0);
            fault("zturn 0;", 1, 0);
            fault("turnturn 0;", 1, 0);
            fault("tur 0;", 1, 0);
            fault("urn 0;", 1, 0);
            fault("turn 09;", 2, 5);
            fault("turn 90;", 2, 5);
            fault("common 01 into 2;", 1, 10);
            fault("turn 00000008;", 2, 5);
            fault("turn 10;", 2, 5);
            fault("sort 0 into 1 full 500;", 2, 19);
            fault("sort 0 into 1 updown;", 1, 14);
            fault("sort 0 into 1 ups;", 1, 14);
            fault("sort 0 intoo 1;", 1, 7);
        });
    }

    private static void statements() {
        test("statement = \"sort\" TAPE \"into\" TAPE { \"up\" | \"down\" | \"full\" MEMORY | \"replace\" MEMORY | \"natural\" | \"balanced\" WAYS | \"shortest\" | \"poly\" WAYS } \";\"", () -> {
            right("sort 0 into 1;");
            right("sort 0 into 0 up;");
            right("sort 0 into 1 down full 1 replace 2 natural balanced 2 shortest poly 3 up;");
            right("sort 0 into 1 up up up up;");
            fault("sort into 1;", 1, 5);
            fault("sort 0 1;", 1, 7);
            fault("sort 0 into;", 1, 11);
            fault("sort 0 into 1 2;", 1, 14);
            fault("sort 0 into 1 full;", 1, 18);
            fault("sort 0 into 1 replace up;", 1, 22);
            fault("sort 0 into 1 natural 3;", 1, 22);
            fault("sort 0 into 1 balanced;", 1, 22);
            fault("sort 0 into 1 shortest 2;", 1, 23);
            fault("sort 0 into 1 poly down;", 1, 19);
            fault("sort 0 into 1 into;", 1, 14);
            fault("sort 0 into 1 first 1;", 1, 14);
            fault("sort 0 into 1 ; up;", 1, 16);
        });
        test("( \"unite\" | \"common\" | \"without\" ) TAPE TAPE \"into\" TAPE \";\"", () -> {
            for (String word : new String[] {"unite", "common", "without"}) {
                int n = word.length();
                right(word + " 3 4 into 5;");
                right(word + " 3 3 into 3;");
                fault(word + " 0 into 1;", 1, n + 3);
                fault(word + " 0 1 2;", 1, n + 5);
                fault(word + " 0 1 2 into 3;", 1, n + 5);
                fault(word + " 0 1 into;", 1, n + 9);
                fault(word + " 0 1 into 2 up;", 1, n + 12);
                fault(word + " 0 1 into 2 3;", 1, n + 12);
                fault(word + ";", 1, n);
            }
        });
        test("\"copy\" TAPE \"into\" TAPE \";\"", () -> {
            right("copy 0 into 1;");
            right("copy 7 into 7;");
            fault("copy 0;", 1, 6);
            fault("copy 0 1;", 1, 7);
            fault("copy 0 into;", 1, 11);
            fault("copy 0 into 1 up;", 1, 14);
            fault("copy 0 into 1 2;", 1, 14);
        });
        test("( \"first\" | \"last\" | \"turn\" | \"clear\" ) TAPE \";\"", () -> {
            for (String word : new String[] {"first", "last", "turn", "clear"}) {
                int n = word.length();
                right(word + " 0;");
                right(word + " 7;");
                fault(word + ";", 1, n);
                fault(word + " into 1;", 1, n + 1);
                fault(word + " 0 into 1;", 1, n + 3);
                fault(word + " 0 1;", 1, n + 3);
                fault(word + " " + word + ";", 1, n + 1);
            }
        });
    }

    private static void numbers() {
        test("TAPE is a number from 0 to 7, MEMORY one from 1 to 50, WAYS one from 2 to 6.", () -> {
            String[] before = {"sort #into 0;", "sort 0 into #;", "unite #1 into 2;", "unite 1 #into 2;", "common 1 1 into #;",
                "without #1 into 1;", "copy #into 1;", "copy 1 into #;", "first #;", "last #;", "turn #;", "clear #;"};
            for (String text : before) {
                int place = text.indexOf('#');
                right(text.replace("#", "0 "));
                right(text.replace("#", "7 "));
                right(text.replace("#", "007 "));
                fault(text.replace("#", "8 "), 2, place);
                fault(text.replace("#", "70 "), 2, place);
            }
            for (String word : new String[] {"full ", "replace "}) {
                String text = "sort 0 into 1 " + word;
                right(text + "1;");
                right(text + "50;");
                right(text + "0050;");
                fault(text + "0;", 2, text.length());
                fault(text + "51;", 2, text.length());
                fault(text + "100;", 2, text.length());
            }
            for (String word : new String[] {"balanced ", "poly "}) {
                String text = "sort 0 into 1 " + word;
                right(text + "2;");
                right(text + "6;");
                fault(text + "0;", 2, text.length());
                fault(text + "1;", 2, text.length());
                fault(text + "7;", 2, text.length());
                fault(text + "22;", 2, text.length());
            }
        });
    }

    private static void options() {
        test("\"sort\" does a whole job; what stands behind the tapes holds for it alone", () -> {
            RunmergeOffice o = after("sort 0 into 2 down full 1 poly 6; sort 0 into 3;", 2);
            due("2 2 1", () -> keysOf(o, 2));
            due("1 2 2", () -> keysOf(o, 3));
            due("0 1 4 0 2", () -> settingsOf(o));
            o.setRuns(1, 2, 9);
            o.setMerge(1, 5);
            write(o, "sort 0 into 2 up replace 3 balanced 3; sort 0 into 3;");
            due(2, o::run);
            due("1 2 2", () -> keysOf(o, 2));
            due("2 2 1", () -> keysOf(o, 3));
            due("1 2 9 1 5", () -> settingsOf(o));
        });
        test("of several words about the same (order, runs, merge), the last one", () -> {
            due("1 2 2", () -> keysOf(after("sort 0 into 2 down up;", 1), 2));
            due("2 2 1", () -> keysOf(after("sort 0 into 2 up down;", 1), 2));
            due("2 2 1", () -> keysOf(after("sort 0 into 2 up natural down shortest;", 1), 2));
            due("1 2 2", () -> keysOf(after("sort 0 into 2 down full 1 poly 2 up replace 9;", 1), 2));
            due("2 2 1", () -> keysOf(after("sort 0 into 2 down up down;", 1), 2));
        });
        test("for what is not told it is as the office has it.", () -> {
            RunmergeOffice o = after("sort 0 into 2 full 2;", 1);
            due("1 2 2", () -> keysOf(o, 2));
            o.setRuns(1, 0, 4);
            due(1, o::run);
            due("2 2 1", () -> keysOf(o, 2));
            write(o, "sort 0 into 2;");
            due(1, o::run);
            due("2 2 1", () -> keysOf(o, 2));
        });
    }

    private static void doings() {
        test("\"unite\", \"common\" and \"without\" do what combine() does, \"copy\" what copy() does, \"first\" and \"last\" what thin() does, \"turn\" and \"clear\" what turn() and clear() do.", () -> {
            RunmergeOffice o = after("sort 0 into 2; unite 2 1 into 3; common 2 1 into 4; without 2 1 into 5; without 1 2 into 6;", 5);
            due("1 0 2|1 0 2 3 4 5|0 2|1|4 5", () -> row(o, 2) + "|" + row(o, 3) + "|" + row(o, 4) + "|" + row(o, 5) + "|" + row(o, 6));
            RunmergeOffice p = after("copy 1 into 2; turn 2; sort 0 into 3; copy 3 into 4; first 3; last 4; copy 7 into 0; clear 1;", 8);
            due("5 4 3|1 0|1 2||", () -> row(p, 2) + "|" + row(p, 3) + "|" + row(p, 4) + "|" + row(p, 0) + "|" + row(p, 1));
            RunmergeOffice q = after("unite 1 1 into 1; common 1 1 into 1; turn 1;", 3);
            due("5 5 4 4 3 3", () -> row(q, 1));
            RunmergeOffice r = after("without 1 1 into 1; copy 0 into 0; sort 0 into 0; first 7; last 7; turn 7; clear 7;", 7);
            due("|1 0 2", () -> row(r, 1) + "|" + row(r, 0));
        });
    }

    // ---- errors ----

    private static void wrongBytes() {
        test("kind 1, a byte that begins no word and is no blank and no sign", () -> {
            int[] bytes = {1, 9, 10, 13, 31, 33, '/', ':', '<', '@', 'A', 'Z', '`', '{', 127, 128, 160, 255};
            for (int b : bytes) {
                char one = (char) b;
                fault(one + "turn 0;", 1, 0);
                fault("turn 0" + one + ";", 1, 6);
                fault("turn 0; " + one, 1, 8);
                fault("turn " + one + "0;", 1, 5);
                fault("turn" + one + "0;", 1, 4);
            }
            fault("turn -1;", 1, 5);
            fault("tu_rn 0;", 1, 0);
        });
    }

    private static void wrongWords() {
        test("or a word or sign that cannot stand there, at its first byte", () -> {
            fault(";", 1, 0);
            fault("  ;", 1, 2);
            fault("turn 0;;", 1, 7);
            fault("turn 0; ;", 1, 8);
            fault("7;", 1, 0);
            fault("0 turn;", 1, 0);
            fault("into 0;", 1, 0);
            fault("up;", 1, 0);
            fault("merge 0;", 1, 0);
            fault("  sorted 0 into 1;", 1, 2);
            fault("turn 0; abc 1;", 1, 8);
            fault("turn 0 turn 1;", 1, 7);
            fault("Turn 0;", 1, 0);
            fault("tUrn 0;", 1, 0);
            fault("turn zero;", 1, 5);
            fault("turn  ;", 1, 6);
        });
        test("a word or sign that cannot stand there", () -> {
            // Each word with one letter wrong is no word of the language.
            String[] texts = {"sort 0 into 1 up;", "sort 0 into 1 down;", "sort 0 into 1 full 3;", "sort 0 into 1 replace 3;",
                "sort 0 into 1 natural;", "sort 0 into 1 balanced 3;", "sort 0 into 1 shortest;", "sort 0 into 1 poly 3;",
                "unite 3 4 into 5;", "common 3 4 into 5;", "without 3 4 into 5;", "copy 0 into 1;", "first 0;", "last 0;",
                "turn 0;", "clear 0;"};
            for (String text : texts) {
                right(text);
                for (int i = 0; i < text.length(); i++) {
                    if (Character.isLetter(text.charAt(i))) {
                        fault(text.substring(0, i) + "q" + text.substring(i + 1), 1, text.lastIndexOf(' ', i) + 1);
                    }
                }
            }
        });
    }

    private static void earlyEnds() {
        test("or, if the text ends too early, at its length", () -> {
            String text = "sort 0 into 1 full 3 poly 3;";
            for (String part : new String[] {"sort", "sort ", "sort 0", "sort 0 into", "sort 0 into 1", "sort 0 into 1  ",
                "sort 0 into 1 up", "sort 0 into 1 full", "sort 0 into 1 full 3", "sort 0 into 1 full 3 poly ",
                "turn 0; turn", "turn 0; turn 1", "unite", "unite 0", "unite 0 1", "unite 0 1 into", "unite 0 1 into 2",
                "copy 0", "copy 0 into ", "copy 0 into 1", "first", "last 0", "turn 0   ", "clear"}) {
                fault(part, 1, part.length());
            }
            for (int i = 0; i < text.length(); i++) {
                RunmergeOffice o = new RunmergeOffice();
                write(o, text.substring(0, i));
                int start = text.lastIndexOf(' ', i - 1) + 1;
                boolean isCut = i > start && Character.isLetter(text.charAt(start)) && Character.isLetter(text.charAt(i));
                due(i == 0 ? NONE : isCut ? start : i, o::errorPlace);
            }
        });
    }

    private static void wrongNumbers() {
        test("kind 2, a number out of its range where a number must stand, at its first byte.", () -> {
            fault("turn 8;", 2, 5);
            fault("turn   9  ;", 2, 7);
            fault("turn8;", 2, 4);
            fault("turn 8", 2, 5);
            fault("turn 4294967296;", 2, 5);
            fault("turn 18446744073709551616;", 2, 5);
            fault("turn 99999999999999999999999999999999999999999999999999;", 2, 5);
            fault("sort 0 into 1 full 00000000000000000000;", 2, 19);
            right("turn 00000000000000000000000000000000000000000000000007;");
            // Where no number must stand, one is wrong whatever it is.
            fault("99;", 1, 0);
            fault("turn 0 99;", 1, 7);
            fault("sort 0 99 into 1;", 1, 7);
        });
    }

    private static void firstErrors() {
        test("The text is read from the front, and the first error is told", () -> {
            fault("turn 8; abc;", 2, 5);
            fault("abc; turn 8;", 1, 0);
            fault("turn 0; turn 9; turn 8 @", 2, 13);
            fault("turn 0; turn @ 8;", 1, 13);
            fault("sort 9 into 8;", 2, 5);
            fault("sort 9 abc", 2, 5);
            fault("sort abc 9", 1, 5);
            fault("abc @", 1, 0);
            fault("@ abc", 1, 0);
        });
        test("If there is no such error, the program is carried out on a copy of the tapes", () -> {
            // The keys on tape 0 are 2 and 1: no statement with it can be done, but the form of all comes first.
            fault("unite 0 0 into 1; turn 8;", 2, 23);
            fault("unite 0 0 into 1; turn", 1, 22);
            fault("unite 0 0 into 1; @", 1, 18);
            fault("unite 0 0 into 1; turn 0;", 3, 0);
            RunmergeOffice o = with(2, 1);
            o.begin(0, 3);
            write(o, "turn 0; clear 0; copy 0 into 3;");
            String before = state(o);
            due(0, o::errorKind);
            due(NONE, o::errorPlace);
            due(before, () -> state(o));
            due(3, o::run);
            due("|", () -> row(o, 0) + "|" + row(o, 3));
        });
    }

    private static void thirdKind() {
        test("the first statement that cannot be done, because the call that does the same throws an exception, is told: kind 3, at its first byte.", () -> {
            fault("unite 0 1 into 2;", 3, 0);
            fault("   common 0 1 into 2;", 3, 3);
            fault("turn 1;without 1 0 into 2;", 3, 7);
            fault("turn 0; turn 0; unite 1 0 into 2; common 0 0 into 1;", 3, 16);
            RunmergeOffice o = full();
            fault(o, "unite 1 2 into 3; unite 3 1 into 4;", 3, 18);
            RunmergeOffice p = full();
            fault(p, "first 1; unite 1 0 into 4;", 3, 9);
            RunmergeOffice q = full();
            write(q, "unite 1 2 into 3; common 3 0 into 4; without 0 3 into 5; first 3; last 1; unite 3 1 into 0;");
            due(0, q::errorKind);
            due(6, q::run);
            due("2 100 99", () -> q.length(0) + " " + q.length(4) + " " + q.length(5));
            // What the text has done before decides, not how the tapes were.
            RunmergeOffice r = with(2, 1);
            write(r, "sort 0 into 0; unite 0 0 into 1;");
            due(0, r::errorKind);
            due(2, r::run);
            due("1 1 0 0", () -> row(r, 1));
            due(2, r::run);
            write(r, "turn 0; unite 0 0 into 1;");
            due(3, r::errorKind);
            due(8, r::errorPlace);
        });
        test("Returns 1 to 3; 0 without an error.", () -> {
            RunmergeOffice o = with(2, 1);
            due(0, o::errorKind);
            write(o, "turn");
            due(1, o::errorKind);
            write(o, "turn 8;");
            due(2, o::errorKind);
            write(o, "unite 0 0 into 0;");
            due(3, o::errorKind);
            o.turn(0);
            due(0, o::errorKind);
        });
        test("Returns the index of a byte, or the length of the text; NONE without an error.", () -> {
            RunmergeOffice o = with(2, 1);
            due(NONE, o::errorPlace);
            write(o, "turn");
            due(4, o::errorPlace);
            write(o, "turn 8;");
            due(5, o::errorPlace);
            write(o, " unite 0 0 into 0;");
            due(1, o::errorPlace);
            o.turn(0);
            due(NONE, o::errorPlace);
        });
    }

    // ---- running ----

    private static void running() {
        test("Runs the text as a program: the tapes become as its copies are in the end. Returns the number of statements.", () -> {
            RunmergeOffice o = with(1, 2, 3);
            due(0, o::run);
            write(o, "   ");
            due(0, o::run);
            write(o, "turn 0;");
            due(1, o::run);
            due("2 1 0", () -> row(o, 0));
            due(1, o::run);
            due("0 1 2", () -> row(o, 0));
            StringBuilder most = new StringBuilder();
            for (int i = 0; i < 25; i++) most.append("turn0;");
            write(o, most.toString());
            due(25, o::run);
            due("2 1 0", () -> row(o, 0));
            most.append("turn0;");
            write(o, most.toString());
            due(26, o::run);
            due("2 1 0", () -> row(o, 0));
            write(o, "copy 0 into 1; copy 0 into 2; copy 0 into 3; copy 0 into 4; copy 0 into 5; copy 0 into 6; copy 0 into 7; clear 0;");
            due(8, o::run);
            for (int t = 1; t < 8; t++) {
                int tape = t;
                due("2 1 0", () -> row(o, tape));
            }
            due("", () -> row(o, 0));
            due(3, o::records);
        });
        test("Throws `IllegalStateException` if the text has an error", () -> {
            RunmergeOffice o = with(2, 1);
            for (String text : new String[] {"turn 0; turn", "turn 0; turn 8;", "turn 0; clear 0; @", "clear 0; sort 0 into 1 full 51;"}) {
                write(o, text);
                refused(STATE, o, o::run);
            }
            write(o, "copy 0 into 1; turn 0; turn 1; turn 1; unite 0 1 into 2;");
            refused(STATE, o, o::run);
            due("0 1|", () -> row(o, 0) + "|" + row(o, 1));
        });
        test("(A program makes no new job: it leaves the one that there is as it is.)", () -> {
            RunmergeOffice o = after("sort 0 into 2;", 1);
            due(STATE, () -> o.job(0));
            o.setRuns(0, 2, 1);
            put(o, 1, 12);
            o.copy(1, 4);
            o.turn(4);
            o.begin(4, 5);
            o.work(1);
            due("5 0 3 0 1 6 0 0", () -> jobOf(o));
            write(o, "sort 4 into 5 natural; clear 4; sort 0 into 4 full 1 balanced 6;");
            due(3, o::run);
            due("5 0 3 0 1 6 0 0", () -> jobOf(o));
            due(2, o::tear);
            due(0, o::errorKind);
            due(3, () -> o.work(200));
            due("5 1 1 2 4 14 2 1", () -> jobOf(o));
            due("3 4 5 6", () -> row(o, 5));
        });
    }
}
