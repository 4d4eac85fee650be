/**
 * Each sentence of the document that names a boundary, quoted, with a test of its own: the last value
 * that is allowed and the first one that is not, the empty and the full, and what is refused.
 * A test's calls are told as a text: "sets 0 5 = 0, sets 0 6 = BAD"; beside the calls of the face there
 * are 'told TEXT' (clear, type each letter, spa: spa's answer) and 'write TEXT' (the last type's answer).
 */
public final class BoundaryTest {
    private static final String DIGITS = "0123456789";
    private static final String FIVE = "c1 0;".repeat(5);
    private static int wrong = 0;
    private static int asked = 0;
    private static int tests = 0;

    public static void main(String[] args) {
        cells();
        chairs();
        pushers();
        letters();
        items();
        tokens();
        faults();
        numbers();
        endsTooEarly();
        noRace();
        gains();
        handicaps();
        costs();
        minutes();
        bends();
        places();
        tuesdays();
        undone();
        undoneOfEachKind();
        winnersAndLoners();
        kings();
        fairs();
        timed();
        guilty();
        odds();
        ruled();
        kinds();
        images();
        readAnew();
        orderOfRefusals();
        System.out.println(tests + " tests of boundaries, " + asked + " answers asked, " + wrong + " wrong");
        if (wrong != 0) System.exit(1);
    }

    // ---- how a test is run

    private static void due(String where, long got, long want) {
        asked++;
        if (got == want) return;
        wrong++;
        System.out.println(where + " answered " + got + ", due is " + want);
    }

    /** The calls go to one new object, the calls of all rows in turn. */
    private static void test(String sentence, String... rows) {
        tests++;
        ChairRegents x = new ChairRegents();
        StringBuilder before = new StringBuilder();
        for (String row : rows) {
            for (String step : row.split(", ")) {
                int at = step.lastIndexOf(" = ");
                String call = step.substring(0, at);
                due("'" + sentence + "': " + before + call, ask(x, call), number(step.substring(at + 3)));
                before.append(call).append(", ");
            }
        }
    }

    private static long number(String text) {
        switch (text) {
            case "BAD": return -1;
            case "STATE": return -2;
            case "FULL": return -3;
            case "NONE": return -9;
            case "NO": return -1000000;
            default: return Long.parseLong(text);
        }
    }

    private static long ask(ChairRegents x, String call) {
        int blank = call.indexOf(' ');
        String name = blank < 0 ? call : call.substring(0, blank);
        String rest = blank < 0 ? "" : call.substring(blank + 1);
        if (name.equals("told")) {
            x.clear();
            write(x, rest);
            return x.spa();
        }
        if (name.equals("write")) return write(x, rest);
        String[] words = rest.isEmpty() ? new String[0] : rest.split(" ");
        int[] a = new int[3];
        for (int i = 0; i < words.length; i++) a[i] = Integer.parseInt(words[i]);
        return askFace(x, name, a[0], a[1], a[2]);
    }

    private static long write(ChairRegents x, String text) {
        long answer = 0;
        for (char letter : text.toCharArray()) answer = x.type(letter);
        return answer;
    }

    private static long askFace(ChairRegents x, String name, int a, int b, int d) {
        switch (name) {
            case "type": return x.type(a);
            case "clear": return x.clear();
            case "spa": return x.spa();
            case "chair": return x.chair(a, b);
            case "pusher": return x.pusher(a);
            case "cell": return x.cell(a);
            case "now": return x.now(a);
            case "tuesday": return x.tuesday();
            case "changes": return x.changes(a, b);
            case "sets": return x.sets(a, b);
            case "greases": return x.greases(a, b);
            case "undo": return x.undo();
            case "time": return x.time(a);
            case "place": return x.place(a);
            case "alone": return x.alone(a);
            case "king": return x.king(a, b);
            case "fair": return x.fair(a);
            case "odds": return x.odds(a, b, d);
            case "times": return x.times(a, b);
            case "forget": return x.forget();
            case "rate": return x.rate(a, b);
            case "keep": return x.keep(a);
            case "back": return x.back(a);
            case "count": return x.count(a);
            case "trace": return x.trace();
            default: throw new IllegalArgumentException(name);
        }
    }

    // ---- 1 the promenade

    private static void cells() {
        test("1 .. 16 CELLS: the least", "told lf; = 1, count 0 = 1, cell 0 = 4, cell 1 = BAD, cell -1 = BAD");
        test("1 .. 16 CELLS: none", "told l; = -11, count 0 = 0, cell 0 = BAD");
        test("1 .. 16 CELLS: the most", "told l" + "f".repeat(15) + "u; = 1, count 0 = 16, cell 15 = 8, cell 16 = BAD");
        test("1 .. 16 CELLS: too many", "told l" + "f".repeat(17) + "; = -27, count 0 = 0, cell 0 = BAD");
        test("each flat, up, down, or a bend", "told lfudb; = 1, cell 0 = 4, cell 1 = 8, cell 2 = 2, cell 3 = 6");
        test("behind the last one is the rail", "told ld;c8 0;c8 0; = 3, cell 1 = BAD, time 0 = 1, time 1 = 1");
    }

    private static void chairs() {
        test("CHAIRS 0 .. (5 at most): none", "told lf; = 1, count 1 = 0, chair 0 0 = BAD, pusher 0 = BAD");
        test("CHAIRS 0 .. (5 at most): one", "told c1 0; = 1, count 1 = 1, chair 0 0 = 1, chair 1 0 = BAD, chair -1 0 = BAD");
        test("CHAIRS 0 .. (5 at most): five", "told " + FIVE + " = 5, count 1 = 5, chair 4 0 = 1, chair 5 0 = BAD");
        test("CHAIRS 0 .. (5 at most): six", "told " + FIVE + "c1 0; = -35, count 1 = 0");
        test("WEIGHT (1 .. 9): the least", "told c1 0; = 1, chair 0 0 = 1");
        test("WEIGHT (1 .. 9): too small", "told c0 0; = -11");
        test("WEIGHT (1 .. 9): the most", "told c9 0; = 1, chair 0 0 = 9");
        test("WEIGHT (1 .. 9): too large", "told c10 0; = -11");
        test("POLICY (0 .. 3): the least", "told c1 0; = 1, chair 0 1 = 0");
        test("POLICY (0 .. 3): the most", "told c1 3; = 1, chair 0 1 = 3");
        test("POLICY (0 .. 3): too large", "told c1 4; = -13");
    }

    private static void pushers() {
        test("PUSHERS: as many as CHAIRS: one", "told c1 0; = 1, pusher 0 = 5, pusher 1 = BAD, pusher -1 = BAD");
        test("PUSHERS: as many as CHAIRS: five", "told " + FIVE + " = 5, pusher 4 = 5, pusher 5 = BAD");
        test("STRENGTH (1 .. 9: the least", "told c1 0;p0 1; = 2, pusher 0 = 1");
        test("STRENGTH (1 .. 9: too small", "told c1 0;p0 0; = -18");
        test("STRENGTH (1 .. 9: the most", "told c1 0;p0 9; = 2, pusher 0 = 9");
        test("STRENGTH (1 .. 9: too large", "told c1 0;p0 10; = -18");
        test("5, if it is not told", "told c1 0;c1 0;c1 0;p1 9; = 4, pusher 0 = 5, pusher 1 = 9, pusher 2 = 5");
        test("5, if it is not told: nor now, though it was", "told c1 0;p0 9; = 2, told c1 0; = 1, pusher 0 = 5");
        test("PUSHER k pushes CHAIR k at first", "told " + FIVE + " = 5",
            "chair 0 2 = 0, chair 1 2 = 1, chair 2 2 = 2, chair 3 2 = 3, chair 4 2 = 4");
    }

    private static void letters() {
        test("a text (120 letters at most): empty", "count 3 = 0, clear = 0, spa = 0");
        test("a text (120 letters at most): full", "write " + " ".repeat(118) + " = 118",
            "type 32 = 119, type 32 = 120, type 32 = FULL, count 3 = 120, clear = 120, type 32 = 1");
        test("a text (120 letters at most): the last one is read", "told lf;" + " ".repeat(116) + "x = -129, count 3 = 120");
        test("a text (120 letters at most): the one refused is not",
            "write lf;" + " ".repeat(117) + "x = FULL, count 3 = 120, spa = 1, count 3 = 0");
        test("a text (120 letters at most): 120 that tell something",
            "told lf;c1 0;" + "p0 1;".repeat(22) + " = 24, pusher 0 = 1",
            "told c1 0;" + "p0 1;".repeat(22) + "p0 9; = 24, pusher 0 = 9");
        test("A letter (0 .. 255)", "type -1 = BAD, type 0 = 1, type 255 = 2, type 256 = BAD, count 3 = 2");
        test("A letter (0 .. 255): far off", "type -2147483648 = BAD, type 2147483647 = BAD, type 364 = BAD, count 3 = 0");
        test("blanks (32) between TOKENS: many", "told   l  f   u  ;  c  1   0  ;  p  0   9  ;   = 3, count 0 = 2, pusher 0 = 9");
        test("blanks (32) between TOKENS: none but where two NUMBERS meet", "told lfu;c1 0;p0 9; = 3, count 0 = 2");
        test("blanks (32) between TOKENS: alone", "told   = 0, count 3 = 0");
        for (int letter : new int[] {0, 9, 10, 12, 13, 31, 33, 95, 160, 255}) {
            test("blanks (32) between TOKENS: no other letter", "write lf; = 3, type " + letter + " = 4, spa = -13");
        }
    }

    private static void items() {
        test("ITEMS, each ended by ;: of l", "told lf c1 0; = -13, told lf = -12, told lf; = 1");
        test("ITEMS, each ended by ;: of c", "told c1 0 c1 0; = -15, told c1 0 = -14, told c1 0; = 1");
        test("ITEMS, each ended by ;: of p", "told c1 0;p0 1 p0 1; = -20, told c1 0;p0 1 = -19, told c1 0;p0 1; = 2");
        test("ITEMS, each ended by ;: once", "told ; = -10, told lf;; = -13, told c1 0;; = -15, told c1 0;p0 1;; = -20");
        test("l and 1 to 16 letters: none", "told l; = -11, told l = -11, told lc1 0; = -11");
        test("l and 1 to 16 letters: sixteen", "told l" + "b".repeat(16) + "; = 1, count 0 = 16");
        test("l and 1 to 16 letters: seventeen", "told l" + "b".repeat(17) + "; = -27");
        test("l and 1 to 16 letters: seventeen, with blanks", "told l" + " b".repeat(17) + "; = -44");
        test("THE PROMENADE; once", "told lf;lf; = -13, told lf;c1 0;lf; = -18, told lf; = 1");
        test("THE PROMENADE; once: in each text", "told lf; = 1, told lu; = 1, cell 0 = 8");
        test("c W P: too few", "told c; = -11, told c1; = -12");
        test("c W P: too many", "told c1 0 0; = -15");
        test("PUSHER K of a CHAIR told ahead: none is", "told p0 1; = -11, told p0 1;c1 0; = -11");
        test("PUSHER K of a CHAIR told ahead: the next one is not",
            "told c1 0;p1 1;c1 0; = -16, told c1 0;c1 0;p1 1; = 3, pusher 1 = 1");
        test("PUSHER K of a CHAIR told ahead: the fifth",
            "told " + FIVE + "p4 1; = 6, pusher 4 = 1, told " + FIVE + "p5 1; = -36");
        test("p K S: too few", "told c1 0;p; = -16, told c1 0;p0; = -17");
        test("p K S: too many", "told c1 0;p0 1 1; = -20");
        test("told again: the later", "told c1 0;p0 1;p0 9;p0 3; = 4, pusher 0 = 3");
    }

    /** Every letter behind the beginnings of a text: all answers that a text of one more letter may have. */
    private static void tokens() {
        next("", -10, "lcp", -11, " ", 0);
        next("l", -11, "fudb ", -12);
        next("lf", -12, "fudb ", -13, ";", 1);
        next("l" + "f".repeat(15), -26, "fudb ", -27, ";", 1);
        next("l" + "f".repeat(16), -27, " ", -28, ";", 1);
        next("lf;", -13, "cp", -14, " ", 1);
        next("c", -11, "123456789 ", -12);
        next("c1", -12, DIGITS, -11, " ", -13);
        next("c1 ", -13, "0123 ", -14);
        next("c1 0", -14, DIGITS, -13, " ", -15, ";", 1);
        next("c1 3", -14, DIGITS, -13, " ", -15, ";", 1);
        next("c1 0;", -15, "lcp", -16, " ", 1);
        next("lf;c1 0;", -18, "cp", -19, " ", 2);
        next(FIVE, -35, "lp", -36, " ", 5);
        next("c1 0;p", -16, "0 ", -17);
        next("c1 0;c1 0;p", -21, "01 ", -22);
        next(FIVE + "p", -36, "01234 ", -37);
        next("c1 0;p0", -17, DIGITS, -16, " ", -18);
        next("c1 0;p0 ", -18, "123456789 ", -19);
        next("c1 0;p0 1", -19, DIGITS, -18, " ", -20, ";", 2);
        next("c1 0;p0 1;", -20, "lcp", -21, " ", 2);
    }

    /** What spa() answers with each letter behind a text: of some letters their answer, of all others the usual one. */
    private static void next(String text, int usual, Object... answers) {
        tests++;
        for (int letter = 0; letter < 256; letter++) {
            int want = usual;
            for (int i = 0; i < answers.length; i += 2) {
                if (((String) answers[i]).indexOf(letter) >= 0) want = (int) answers[i + 1];
            }
            ChairRegents x = new ChairRegents();
            write(x, text);
            x.type(letter);
            String where = "'TOKENS are the single letters': '" + text + "' and letter " + letter;
            due(where + ": spa", x.spa(), want);
            due(where + ": letters then", x.count(3), want < 0 ? text.length() + 1 : 0);
        }
    }

    private static void faults() {
        test("the first letter of the first TOKEN that can't stand there: at once", "told f; = -10, told 1 = -10, told ;lf; = -10");
        test("the first letter of the first TOKEN that can't stand there: behind blanks", "told    f; = -13, told lf;  c1   99 0; = -20");
        test("the first letter of the first TOKEN that can't stand there: the first of two", "told c0 9; = -11, told lf;lf;lf; = -13");
        test("the first letter of the first TOKEN that can't stand there: ahead of another letter", "told f x = -10, told c1 4; ! = -13");
        test("l again", "told lf;  l = -15, told lfl; = -12");
        test("a seventeenth CELL", "told l" + "d".repeat(16) + " d = -28");
        test("a sixth c", "told " + FIVE + "c = -35, told " + FIVE + "  c = -37");
        test("a PUSHER that there is not", "told p  0 1; = -13, told c1 0;p 1 1; = -17, told c1 0;p 99 1; = -17");
        test("of any other letter", "told x = -10, told lx; = -11, told lfx; = -12, told cx; = -11, told c1x0; = -12",
            "told c1 0x; = -14, told c1 0;px 1; = -16, told c1 0;p0x1; = -17, told c1 0;x = -15");
        test("of any other letter: large ones", "told L = -10, told C1 0; = -10, told lF; = -11, told c1 0;P0 1; = -15");
        test("of any other letter: signs ahead of a NUMBER", "told c-1 0; = -11, told c+1 0; = -11, told c1 -0; = -13");
        test("-10 less FAULT: nothing changes: it is told again, as the text stays", "told c = -11, spa = -11, type 49 = 2, spa = -12, count 3 = 2");
    }

    /** A NUMBER too large for where it stands, each time in the four places where one may stand. */
    private static void numbers() {
        String[] tooLarge = {"10", "11", "19", "90", "99", "100", "101", "109", "110", "256", "257", "999", "1000",
            "65536", "65537", "4294967296", "4294967297", "18446744073709551616", "18446744073709551617"};
        for (String n : tooLarge) fourPlaces(n.length() < 3 ? "a NUMBER beyond what it may be" : "a NUMBER above 99", n);
        for (String n : new String[] {"00", "01", "02", "09", "000", "001", "010", "0".repeat(40) + "1"}) {
            fourPlaces("with a 0 ahead of others", n);
        }
        test("with a 0 ahead of others: 0 alone is a NUMBER", "told c1 0;p0 1; = 2");
        fourthOfPlaces("a NUMBER beyond what it may be", "0");
    }

    private static void fourPlaces(String sentence, String n) {
        test(sentence, "told c" + n + " 0; = -11");
        test(sentence, "told c1 " + n + "; = -13");
        test(sentence, "told c1 0;c1 0;p" + n + " 1; = -21");
        fourthOfPlaces(sentence, n);
    }

    private static void fourthOfPlaces(String sentence, String n) {
        test(sentence, "told c1 0;p0 " + n + "; = -18, count 1 = 0");
    }

    /** Each beginning of a text: it has whole ITEMS, or ends too early. */
    private static void endsTooEarly() {
        String text = "  l f  ud b ; c9 3;c 1  0 ;p1 9 ; p 0 1;  ";
        tests++;
        for (int length = 0; length <= text.length(); length++) {
            String begun = text.substring(0, length);
            String told = begun.trim();
            long items = begun.chars().filter(letter -> letter == ';').count();
            boolean isWhole = told.isEmpty() || told.endsWith(";");
            ChairRegents x = new ChairRegents();
            write(x, begun);
            due("'the text's length, if it ends too early': " + begun, x.spa(), isWhole ? items : -10 - length);
        }
        test("the text's length, if it ends too early: nothing of an earlier text is read", "told c1 00; = -13, told c1 0 = -14, told c10 = -11, told c1 = -12");
        test("the text's length, if it ends too early: the longest, with a NUMBER", "told c1" + " ".repeat(117) + "0 = -130, count 3 = 120");
        test("the text's length, if it ends too early: the longest", "told c1" + " ".repeat(118) + " = -130");
    }

    private static void noRace() {
        test("Without l, or without CHAIRS: no race: neither", "tuesday = STATE, fair -1 = STATE, now 1 = NONE, now 2 = 0");
        test("Without l, or without CHAIRS: no race: no l", "told c1 0;c1 0; = 2, tuesday = STATE, time 0 = STATE, place 1 = STATE",
            "alone 1 = STATE, king 0 -1 = STATE, king 1 1 = STATE, fair -1 = STATE, fair 1 = STATE, odds 0 0 0 = STATE",
            "odds 1 10 1 = STATE, times 0 1 = STATE, now 1 = NONE, now 2 = 0, now 3 = NONE, now 4 = 0, now 5 = 0");
        test("Without l, or without CHAIRS: no race: no CHAIRS", "told lf; = 1, tuesday = STATE, fair -1 = STATE, time 0 = BAD",
            "place 0 = BAD, alone 0 = BAD, king 0 -1 = BAD, fair 0 = BAD, odds 0 0 0 = BAD, times 0 1 = BAD, now 1 = NONE, now 2 = 0");
        test("Without l, or without CHAIRS: no race: the rest goes on", "told c1 0;c1 0; = 2, changes 0 1 = 1, sets 0 5 = 0",
            "greases 1 1 = 1, now 6 = 3, keep 0 = 0, undo = 2, back 0 = 0, now 6 = 0, rate 3 0 = 12, trace = 1011");
        test("Without l, or without CHAIRS: no race: the least race", "told lf;c1 0; = 2, tuesday = 0, time 0 = 1, place 0 = 0",
            "alone 0 = 1, king 0 -1 = 0, fair -1 = 0, odds 0 5 0 = 1, times 0 1 = 1, now 1 = 0, now 2 = 1");
    }

    // ---- 2 races

    private static void gains() {
        test("1 at least: above it", "told c8 0; = 1, chair 0 5 = 2");
        test("1 at least: just it", "told c9 0; = 1, chair 0 5 = 1");
        test("1 at least: 0 is below it", "told c8 0;p0 4; = 2, chair 0 5 = 1");
        test("1 at least: below 0", "told c9 0;p0 4; = 2, chair 0 5 = 1");
        test("1 at least: the lowest", "told c9 0;p0 1; = 2, chair 0 5 = 1");
        test("1 at least: the highest", "told c1 0;p0 9; = 2, chair 0 5 = 17");
        test("3 more, if it is greased: of the lowest", "told c9 0;p0 1; = 2, greases 0 1 = 1, chair 0 5 = 4, greases 0 0 = 0, chair 0 5 = 1");
        test("3 more, if it is greased: just below 1", "told c8 0;p0 4; = 2, greases 0 1 = 1, chair 0 5 = 4");
        test("3 more, if it is greased: of the highest", "told c1 0;p0 9; = 2, greases 0 1 = 1, chair 0 5 = 20");
        test("twice its PUSHER's STRENGTH less its WEIGHT: another PUSHER",
            "told c1 0;c9 0;p0 9;p1 6; = 4, changes 0 1 = 1, chair 0 5 = 11, chair 1 5 = 9");
    }

    private static void handicaps() {
        test("HANDICAP (0 .. 5; 0 at first): the most", "told c1 0; = 1, sets 0 5 = 0, chair 0 3 = 5, sets 0 6 = BAD, chair 0 3 = 5");
        test("HANDICAP (0 .. 5; 0 at first): the least", "told c1 0; = 1, sets 0 1 = 0, sets 0 -1 = BAD, sets 0 0 = 1, chair 0 3 = 0");
        test("HANDICAP (0 .. 5; 0 at first): at first", "told " + FIVE + " = 5",
            "chair 0 3 = 0, chair 1 3 = 0, chair 2 3 = 0, chair 3 3 = 0, chair 4 3 = 0");
        for (int h = 1; h <= 5; h++) {
            test("whose HANDICAP is less than the minute", "told lff;c6 0; = 2, time 0 = 2",
                "sets 0 " + h + " = 0, time 0 = " + (2 + h) + ", alone 0 = " + (2 + h));
        }
    }

    private static void costs() {
        test("COST of a CELL: 4 flat", "told lf;c6 0;c7 0; = 3, cell 0 = 4, time 0 = 1, time 1 = 2");
        test("COST of a CELL: 8 up", "told lu;c2 0;c3 0; = 3, cell 0 = 8, time 0 = 1, time 1 = 2");
        test("COST of a CELL: 2 down", "told ld;c8 0;c9 0; = 3, cell 0 = 2, time 0 = 1, time 1 = 2");
        test("COST of a CELL: 6 a bend", "told lb;c4 0;c5 0; = 3, cell 0 = 6, time 0 = 1, time 1 = 2");
    }

    private static void minutes() {
        test("minutes (1 the first one)", "told lf;c1 0; = 2, time 0 = 1, alone 0 = 1");
        test("while they are COST of its CELL or more: two CELLS at once", "told lff;c2 0;c3 0; = 3, time 0 = 1, time 1 = 2");
        test("while they are COST of its CELL or more: eight CELLS at once", "told ldddddddd;c1 0;p0 9;c3 0;p1 9; = 5, time 0 = 1, time 1 = 2");
        test("while they are COST of its CELL or more: what is left counts", "told lfff;c5 0; = 2, time 0 = 3, told lfffd;c5 0; = 2, time 0 = 3");
        test("A RACE goes by minutes: the latest of all", "told l" + "u".repeat(16) + ";c9 0; = 2, time 0 = 128, sets 0 5 = 0, time 0 = 133, alone 0 = 133");
        test("(all start in CELL 0)", "told lff;" + "c6 0;".repeat(5) + " = 6, time 0 = 2, time 1 = 2, time 2 = 2, time 3 = 2, time 4 = 2");
    }

    private static void bends() {
        String held = "a bend (but CELL 0) that another CHAIR is in it can't enter";
        test(held, "told lbb;c7 0;c7 0; = 3, time 0 = 4, time 1 = 5");
        test(held + ": flat, up, down hold all", "told lff;c8 0;c8 0; = 3, time 0 = 4, time 1 = 4",
            "told luu;c6 0;c6 0; = 3, time 0 = 4, time 1 = 4, told ldd;c9 0;c9 0; = 3, time 0 = 4, time 1 = 4");
        test(held + ": left in this minute by a higher number", "told lfbf;c8 0;c6 0; = 3, time 0 = 8, time 1 = 4");
        test(held + ": left in this minute by a lower number", "told lfbf;c6 0;c5 0; = 3, time 0 = 4, time 1 = 4");
        test(held + ": who is in, is in none", "told lfb;c8 0;c8 0;p0 9;p1 9; = 5, time 0 = 1, time 1 = 1");
        test(held + ": nobody is there", "told lbbbb;c9 0; = 2, time 0 = 24, alone 0 = 24");
        // Chair 0 goes from the first bend to the second one in minute 3; chair 1, right behind it, waits in the first.
        test(held + ": one bend behind another", "told ldbb;c7 0;c1 0; = 3, time 0 = 5, time 1 = 5, alone 1 = 2");
        test(held + ": five, one behind another", "told lfb;" + "c9 0;".repeat(5) + " = 6, time 0 = 10, time 1 = 15, time 2 = 20, time 3 = 25, time 4 = 30",
            "place 0 = 0, place 4 = 4, told lfb;c9 0;c9 0; = 3, time 0 = 10, time 1 = 15");
        // Chair 2 was in the bend when chair 1 won; it isn't there any more.
        test(held + ": nobody who was told earlier", "told lfbu;c9 0;c1 0;c6 0;p1 9; = 5, now 1 = 1, told lfbu;c9 0;c6 0; = 3, time 1 = 5, alone 1 = 5");
        test("CELL 0 holds all", "told lbf;c8 0;c6 0;c4 0; = 4, time 0 = 5, time 1 = 3, time 2 = 2");
        test("CELL 0 holds all: five", "told lb;" + "c9 0;".repeat(5) + " = 6, time 0 = 6, time 1 = 6, time 2 = 6, time 3 = 6, time 4 = 6");
        // Held in minutes 1 and 2 with 4, in minute 3 it goes on with 9; uncut it would be in in minute 3.
        test("then POINTS are COST of its CELL: no more", "told lfbf;c6 0;c5 0; = 3, time 1 = 4, alone 1 = 3");
        // Held in minute 1 with 8: 26 points in minute 3; with the bend's 6 it would need minute 4.
        test("then POINTS are COST of its CELL: no less", "told lubfff;c2 0;c1 0; = 3, time 0 = 4, time 1 = 3, place 0 = 1");
        test("and it stays in this minute", "told lbb;c1 0;c1 0; = 3, time 0 = 2, time 1 = 2, place 0 = 0");
    }

    private static void places() {
        test("of like ones by who was in first in that minute (by numbers)", "told lf;" + "c1 0;".repeat(5) + " = 6",
            "place 0 = 0, place 1 = 1, place 2 = 2, place 3 = 3, place 4 = 4, place 5 = BAD, place -1 = BAD");
        test("the PLACES are by TIME", "told lu;c6 0;c5 0;c4 0;c3 0;c2 0; = 6, time 0 = 2, time 1 = 2, time 2 = 2, time 3 = 2, time 4 = 1",
            "place 0 = 4, place 1 = 0, place 2 = 1, place 3 = 2, place 4 = 3");
        test("the PLACES are by TIME: one", "told lf;c1 0; = 2, place 0 = 0, place 1 = BAD");
        test("Who has the k-th PLACE: the last waits for all", "told l" + "u".repeat(16) + ";c9 0;c1 0;p1 9; = 4, sets 0 5 = 0",
            "place 1 = 0, time 0 = 133, time 1 = 8");
    }

    private static void tuesdays() {
        test("the first one is regent (counted; WEEKS are 1 more", "told lf;c1 0;c1 0; = 3, now 0 = 0, tuesday = 0, now 0 = 1",
            "chair 0 6 = 1, chair 1 6 = 0, sets 0 1 = 0, tuesday = 1, now 0 = 2, chair 0 6 = 1, chair 1 6 = 1");
        // 999 weeks are beyond the 512 calls that an object is promised; no shorter way leads there.
        StringBuilder weeks = new StringBuilder("told lf;c1 0; = 2");
        for (int week = 1; week <= 998; week++) weeks.append(", tuesday = 0");
        test("WEEKS are 999", weeks + ", now 0 = 998, tuesday = 0, now 0 = 999, now 6 = 10, tuesday = STATE, now 0 = 999",
            "chair 0 6 = 999, now 6 = 10, undo = 9, now 0 = 998, tuesday = 0, tuesday = STATE, rate 5 0 = 1000, keep 0 = 999, back 0 = 999");
        test("who pushes the first one then. BAD (alike ones, too)", "told c1 0;c1 0;c1 0; = 3, changes 0 0 = BAD, changes 2 2 = BAD",
            "changes 3 3 = BAD, changes 0 2 = 2, changes 0 1 = 1, chair 0 2 = 1, chair 1 2 = 2, chair 2 2 = 0");
        test("changes: the last CHAIR, and the one behind it", "told " + FIVE + " = 5, changes 4 0 = 0, changes 0 4 = 0",
            "changes 5 0 = BAD, changes 0 5 = BAD, changes -1 0 = BAD, changes 0 -1 = BAD, now 6 = 2");
        test("changes: the only CHAIR", "told c1 0; = 1, changes 0 0 = BAD, changes 0 1 = BAD, changes 1 0 = BAD, now 6 = 0");
        test("sets: STATE: it is so", "told c1 0; = 1, sets 0 0 = STATE, sets 0 5 = 0, sets 0 5 = STATE, now 6 = 1");
        test("sets: the last CHAIR, and the one behind it", "told " + FIVE + " = 5, sets 4 1 = 0, sets 5 1 = BAD, sets -1 1 = BAD, now 6 = 1");
        test("GREASED (1), not (0)", "told c1 0; = 1, greases 0 -1 = BAD, greases 0 2 = BAD, greases 0 1 = 1, chair 0 4 = 1, greases 0 0 = 0, chair 0 4 = 0");
        test("greases: STATE: it is so", "told c1 0; = 1, greases 0 0 = STATE, greases 0 1 = 1, greases 0 1 = STATE, now 6 = 1");
        test("greases: how many are: none to all", "told " + FIVE + " = 5",
            "greases 0 1 = 1, greases 4 1 = 2, greases 1 1 = 3, greases 3 1 = 4, greases 2 1 = 5, greases 5 1 = BAD, greases -1 1 = BAD",
            "greases 4 0 = 4, greases 0 0 = 3, greases 1 0 = 2, greases 2 0 = 1, greases 3 0 = 0");
    }

    private static void undone() {
        test("UNDONE: none", "undo = STATE, now 6 = 0, told c1 0; = 1, undo = STATE, now 6 = 0");
        test("UNDONE: one", "told c1 0; = 1, sets 0 1 = 0, now 6 = 1, undo = 0, chair 0 3 = 0, undo = STATE");
        test("10 are known: nine", deeds(9) + ", now 6 = 9, " + undosOfDeeds(9) + ", chair 0 3 = 0, undo = STATE");
        test("10 are known: ten", deeds(10) + ", now 6 = 10, " + undosOfDeeds(10) + ", chair 0 3 = 0, undo = STATE");
        test("older ones are lost: eleven", deeds(11) + ", now 6 = 10, " + undosOfDeeds(11) + ", undo = STATE, chair 0 3 = 1");
        test("older ones are lost: twelve", deeds(12) + ", now 6 = 10, " + undosOfDeeds(12) + ", undo = STATE, chair 0 3 = 2");
        test("older ones are lost: thirty", deeds(30) + ", now 6 = 10, " + undosOfDeeds(30) + ", undo = STATE, chair 0 3 = 2");
        test("older ones are lost: the others stay as they are", "told lf;c1 0;c1 0;c1 0; = 4, sets 0 1 = 0, sets 1 1 = 0, sets 2 1 = 0",
            "greases 0 1 = 1, changes 0 1 = 1, tuesday = 0, greases 1 1 = 2, sets 2 4 = 1, changes 1 2 = 2, greases 2 1 = 3, sets 1 5 = 1",
            "undo = 9, chair 1 3 = 1, undo = 8, chair 2 4 = 0, undo = 7, chair 1 2 = 0, chair 2 2 = 2, undo = 6, chair 2 3 = 1",
            "undo = 5, chair 1 4 = 0, undo = 4, now 0 = 0, chair 0 6 = 0, undo = 3, chair 0 2 = 0, chair 1 2 = 1, undo = 2, chair 0 4 = 0",
            "undo = 1, chair 2 3 = 0, undo = 0, chair 1 3 = 0, undo = STATE, chair 0 3 = 1");
        test("that was not refused", deeds(10) + ", sets 0 6 = BAD, sets 0 4 = STATE, greases 0 0 = STATE, changes 0 0 = BAD",
            "tuesday = STATE, now 6 = 10, " + undosOfDeeds(10) + ", undo = STATE");
        test("UNDONE: what was undone can't be again", "told c1 0; = 1, sets 0 3 = 0, sets 0 5 = 3, undo = 1, chair 0 3 = 3",
            "sets 0 1 = 3, now 6 = 2, undo = 1, chair 0 3 = 3, undo = 0, chair 0 3 = 0, undo = STATE");
        test("the latest tuesday(), changes(), sets(), greases(): nothing else",
            "told lf;c1 0;c1 0; = 3, times 0 1 = 1, keep 0 = 0, rate 0 0 = 1, write lf = 2, forget = 1, clear = 2, now 6 = 0, undo = STATE");
        test("10 are known: room again behind undo()", deeds(10) + ", undo = 9, undo = 8, greases 0 1 = 1, now 6 = 9, tuesday = STATE",
            "sets 0 5 = 2, now 6 = 10, " + undos(10) + ", chair 0 3 = 0, chair 0 4 = 0");
    }

    /** So many deeds, the n-th of which sets the handicap to the rest of n by 6. */
    private static String deeds(int many) {
        StringBuilder steps = new StringBuilder("told c1 0; = 1");
        for (int n = 1; n <= many; n++) {
            steps.append(", sets 0 ").append(n % 6).append(" = ").append((n - 1) % 6);
        }
        return steps.toString();
    }

    /** As many as are known, with the handicap as it was ahead of each. */
    private static String undosOfDeeds(int done) {
        int known = Math.min(10, done);
        StringBuilder steps = new StringBuilder("chair 0 3 = " + done % 6);
        for (int left = known - 1; left >= 0; left--) {
            steps.append(", undo = ").append(left).append(", chair 0 3 = ").append((done - known + left) % 6);
        }
        return steps.toString();
    }

    private static String undos(int many) {
        StringBuilder steps = new StringBuilder("undo = " + (many - 1));
        for (int left = many - 2; left >= 0; left--) steps.append(", undo = ").append(left);
        return steps.toString();
    }

    /** Each kind of deed as the oldest that is still known, and as the one that is just lost. */
    private static void undoneOfEachKind() {
        String told = "told lf;c1 0;c1 0; = 3, ";
        String nine = "sets 1 1 = 0, sets 1 2 = 1, sets 1 3 = 2, sets 1 4 = 3, sets 1 5 = 4, sets 1 4 = 5, sets 1 3 = 4, sets 1 2 = 3, sets 1 1 = 2";
        String[][] kinds = {
            {"tuesday = 0", "now 0 = 1, chair 0 6 = 1, now 3 = 0", "now 0 = 0, chair 0 6 = 0, now 3 = NONE"},
            {"changes 0 1 = 1", "chair 0 2 = 1, chair 1 2 = 0", "chair 0 2 = 0, chair 1 2 = 1"},
            {"sets 0 5 = 0", "chair 0 3 = 5", "chair 0 3 = 0"},
            {"greases 0 1 = 1", "chair 0 4 = 1, chair 0 5 = 12", "chair 0 4 = 0, chair 0 5 = 9"}};
        for (String[] kind : kinds) {
            String name = kind[0].substring(0, kind[0].indexOf(' '));
            test("10 are known: the oldest is " + name, told + kind[0] + ", " + nine + ", now 6 = 10, " + kind[1],
                "undo = 9, undo = 8, undo = 7, undo = 6, undo = 5, undo = 4, undo = 3, undo = 2, undo = 1, " + kind[1],
                "undo = 0, " + kind[2] + ", chair 1 3 = 0, undo = STATE, " + kind[2]);
            test("older ones are lost: it is " + name, told + kind[0] + ", " + nine + ", sets 1 0 = 1, now 6 = 10, " + kind[1],
                undos(10) + ", chair 1 3 = 0, undo = STATE, " + kind[1]);
            test("UNDONE: the only one is " + name, told + kind[0] + ", now 6 = 1, undo = 0, " + kind[2] + ", undo = STATE, " + kind[2]);
        }
    }

    // ---- 3 what would be

    private static void winnersAndLoners() {
        test("FIRST: who would win: the last CHAIR", "told lu;c6 0;c5 0;c4 0;c3 0;c2 0; = 6, now 1 = 4, now 0 = 0, chair 4 6 = 0");
        test("ALONE of a CHAIR: the TIME, if it raced alone", "told lfbf;c8 0;c6 0; = 3, alone 0 = 7, time 0 = 8, alone 1 = 4",
            "alone 2 = BAD, alone -1 = BAD");
        test("ALONE: points that just do, and one short", "told lff;c6 0;c7 0; = 3, alone 0 = 2, alone 1 = 3");
        test("TIME of a CHAIR: the last one, and the one behind it", "told lf;c1 0;c1 0; = 3, time 1 = 1, time 2 = BAD, time -1 = BAD");
        test("now: the least and the most that may be asked", "now -1 = BAD, now 0 = 0, now 6 = 0, now 7 = BAD");
        test("Of a CHAIR: the least and the most that may be asked", "told c7 0; = 1, chair 0 -1 = BAD, chair 0 0 = 7, chair 0 6 = 0, chair 0 7 = BAD");
        test("count: the least and the most that may be asked", "count -1 = BAD, count 0 = 0, type 0 = 1, count 3 = 1, count 4 = BAD");
    }

    private static void kings() {
        test("KING: one CHAIR alone", "told lf;c1 0; = 2, king 0 -1 = 0, king 0 0 = 0, king 0 1 = BAD, king 0 -2 = BAD, king 1 0 = BAD, king -1 0 = BAD");
        test("KING: how many have another one: none", "told lf;c1 0;c9 0; = 3, king 0 -1 = 0, king 0 0 = 0, king 0 1 = 1");
        test("KING: NONE", "told lf;c1 0;c1 0; = 3, king 1 -1 = NONE, king 1 0 = NONE, king 1 1 = NONE, king 1 2 = BAD, now 2 = 1");
        // Who has pusher 4 wins.
        String five = "told luu;" + "c1 0;".repeat(5) + "p0 1;p1 1;p2 1;p3 1;p4 9; = 11, ";
        test("KING: who pushes the k-th CHAIR: the last", five + "king 4 -1 = 0, king 0 -1 = 2, king 0 0 = 4, king 0 4 = 0, king 0 5 = BAD, king 5 0 = BAD");
        test("fewest CHAIRS have another PUSHER than NOW: not than at first",
            five + "changes 0 4 = 4, changes 1 2 = 2, changes 3 4 = 0, king 4 -1 = 2, king 4 0 = 3, king 4 4 = 4, king 0 -1 = 0, king 0 3 = 0");
        // Pusher 3 or 4 makes chair 2 win; 01324 comes ahead of 01432.
        test("of several the first (the PUSHER of CHAIR 0, then 1, ..)", "told luu;" + "c1 0;".repeat(5) + "p0 1;p1 1;p2 1;p3 9;p4 9; = 11",
            "king 2 -1 = 2, king 2 0 = 0, king 2 1 = 1, king 2 2 = 3, king 2 3 = 2, king 2 4 = 4");
        // Chair 2 wins by pusher 0 alone: 120 comes ahead of 210, but is one change more.
        test("of several the first: fewest ahead of first", "told luu;c1 0;c1 0;c1 0;p0 9;p1 1;p2 1; = 7",
            "king 1 -1 = 2, king 1 0 = 1, king 1 1 = 0, king 1 2 = 2, king 2 -1 = 2, king 2 0 = 2, king 2 1 = 1, king 2 2 = 0");
        // Chair 2 wins where chair 1 has pusher 0 and chair 0 has not pusher 1: by 201 alone.
        test("KING: how many have another one: three", "told lf;c9 0;c5 0;c1 0;p0 1;p1 9;p2 5; = 7",
            "king 2 -1 = 3, king 2 0 = 2, king 2 1 = 0, king 2 2 = 1");
        // Chair 3 wins where it and chair 4 have pushers 1 and 2, and chair 0 has 3 or 4: 30412 is the first way.
        test("KING: how many have another one: all five", "told lb;c1 0;c5 0;c9 0;c9 0;c9 0;p1 9;p2 9;p3 1;p4 1; = 10",
            "king 3 -1 = 5, king 3 0 = 3, king 3 1 = 0, king 3 2 = 4, king 3 3 = 1, king 3 4 = 2");
        // Chair 4 wins in minute 2 where nobody else is in by then: by 43210 alone, the last way of all.
        test("of all ways to give PUSHERS to CHAIRS: the last way", "told lf;c5 0;c4 0;c9 0;c9 0;c5 0;p0 7;p1 6;p2 5;p3 2;p4 3; = 11, sets 3 1 = 0",
            "sets 4 1 = 0, king 4 -1 = 4, king 4 0 = 4, king 4 1 = 3, king 4 2 = 2, king 4 3 = 1, king 4 4 = 0, now 2 = 31");
        test("of all ways to give PUSHERS to CHAIRS: the first way", five + "changes 0 4 = 4, king 4 -1 = 2, king 4 0 = 0, king 4 4 = 4, king 4 1 = 1");
        test("KINGS: all", five + "now 2 = 31");
        // Greased, chair 4 is in in minute 4 by a pusher of strength 1; nobody else is ahead of minute 6.
        test("KINGS: one", five + "greases 4 1 = 1, sets 0 5 = 0, sets 1 5 = 0, sets 2 5 = 0, sets 3 5 = 0, now 2 = 16, king 0 -1 = NONE, king 3 4 = NONE");
        test("KINGS: the last alone", "told lf;c1 0;c1 0; = 3, sets 0 5 = 0, now 2 = 2, king 0 -1 = NONE, king 1 -1 = 0");
    }

    private static void fairs() {
        test("FAIR: one CHAIR", "told lf;c1 0; = 2, fair -1 = 0, fair 0 = 0, fair 1 = BAD, fair -2 = BAD");
        test("FAIR: alike, so nobody is held back", "told lf;" + FIVE + " = 6, fair -1 = 0, fair 0 = 0, fair 4 = 0, fair 5 = BAD");
        test("all HANDICAPS (0 .. 5 each): five minutes apart", "told lb;c9 0;c1 0; = 3, alone 0 = 6, alone 1 = 1, fair -1 = 0, fair 0 = 0, fair 1 = 5");
        test("all HANDICAPS (0 .. 5 each): six minutes apart", "told lu;c6 0;c9 0; = 3, alone 0 = 2, alone 1 = 8, fair -1 = 1, fair 0 = 5, fair 1 = 0");
        test("of several of least HANDICAPS together", "told lffff;c2 0;c6 0;c8 0; = 4, fair -1 = 1, fair 0 = 5, fair 1 = 3, fair 2 = 0");
        test("the greatest less the least: as far apart as can be", "told l" + "u".repeat(16) + ";c1 0;c9 0;p0 9;p1 1; = 5, fair -1 = 115, fair 0 = 5, fair 1 = 0");
        test("the greatest less the least: the most", "told l" + "u".repeat(16) + ";c1 0;c9 0;p0 9;p1 1; = 5, greases 0 1 = 1, fair -1 = 116, fair 0 = 5");
        test("FAIR: of any HANDICAPS as NOW", "told lb;c9 0;c1 0; = 3, sets 0 5 = 0, sets 1 1 = 0, fair -1 = 0, fair 0 = 0, fair 1 = 5, chair 1 3 = 1");
    }

    private static void timed() {
        String race = "told lf;c1 0;c1 0; = 3, ";
        test("TIMED (6 at most): none", race + "count 2 = 0, forget = 0, now 4 = 0, now 5 = 0");
        test("TIMED (6 at most): full", race + "times 0 1 = 1, times 1 1 = 2, times 0 1 = 3, times 1 1 = 4, times 0 1 = 5, count 2 = 5",
            "times 1 1 = 6, times 0 1 = FULL, times 1 9 = FULL, count 2 = 6, now 5 = 0, forget = 6, forget = 0, times 0 1 = 1");
        test("TIMED (6 at most): the sixth counts", race + "times 0 1 = 1, times 0 1 = 2, times 0 1 = 3, times 0 1 = 4, times 0 1 = 5, now 5 = 0, times 1 2 = 6, now 5 = 2");
        test("t (1 .. 200) minutes", race + "times 0 0 = BAD, times 0 1 = 1, times 0 200 = 2, times 0 201 = BAD, times 0 -1 = BAD, count 2 = 2");
        test("TIMED: the last CHAIR, and the one behind it", race + "times 1 1 = 1, times 2 1 = BAD, times -1 1 = BAD, count 2 = 1");
        test("Nothing was TIMED", race + "times 0 9 = 1, times 1 9 = 2, now 5 = 3, forget = 2, count 2 = 0, now 5 = 0, times 0 1 = 1, now 5 = 0");
    }

    private static void guilty() {
        // Alone in 4 minutes, greased in 1.
        String one = "told lf;c9 0;c9 0; = 3, ";
        test("of which something was TIMED: nothing", one + "now 4 = 0, now 5 = 0, greases 0 1 = 1, now 4 = 0, now 5 = 0");
        test("all of it as if greased", one + "times 0 1 = 1, now 4 = 1, now 5 = 0, times 0 1 = 2, now 4 = 1, times 0 2 = 3, now 4 = 0, now 5 = 1");
        test("not all of it as if not", one + "times 0 4 = 1, now 4 = 0, now 5 = 0, times 0 4 = 2, now 4 = 0, now 5 = 0");
        test("neither all is as if greased nor all as if not: some of each", one + "times 0 4 = 1, times 0 1 = 2, now 4 = 0, now 5 = 1");
        test("neither all is as if greased nor all as if not: one off", one + "times 0 3 = 1, now 5 = 1, times 1 5 = 2, now 5 = 3, now 4 = 0");
        test("GUILTY: alike greased or not", "told lf;c1 0; = 2, times 0 1 = 1, now 4 = 0, now 5 = 0, times 0 2 = 2, now 4 = 0, now 5 = 1");
        test("GUILTY: all five", "told lf;" + "c9 0;".repeat(5) + " = 6, times 0 1 = 1, times 1 1 = 2, times 2 1 = 3, times 3 1 = 4, times 4 1 = 5, now 4 = 31, now 5 = 0");
        test("DOUBTFUL: all five", "told lf;" + "c9 0;".repeat(5) + " = 6, times 0 2 = 1, times 1 2 = 2, times 2 2 = 3, times 3 2 = 4, times 4 2 = 5, now 4 = 0, now 5 = 31");
        test("greased or not", one + "times 0 1 = 1, greases 0 1 = 1, now 4 = 1, now 5 = 0, greases 0 0 = 0, now 4 = 1");
        test("HANDICAP as NOW", one + "times 0 6 = 1, now 5 = 1, sets 0 5 = 0, now 4 = 1, now 5 = 0, sets 0 2 = 5, now 4 = 0, now 5 = 0");
        test("by its PUSHER", "told lf;c9 0;c9 0;p1 9; = 4, times 0 1 = 1, now 4 = 1, changes 0 1 = 1, now 4 = 0, now 5 = 0");
        test("t (1 .. 200) minutes: the latest ALONE", "told l" + "u".repeat(16) + ";c9 0; = 2, sets 0 5 = 0, times 0 133 = 1, now 4 = 0, now 5 = 0",
            "forget = 1, times 0 37 = 1, now 4 = 1, now 5 = 0, forget = 1, times 0 134 = 1, now 4 = 0, now 5 = 1");
    }

    private static void odds() {
        // Chair 0 wins but where it alone has an ill pusher: 1 - x (10 - x) / 100.
        String pair = "told lf;c1 0;c1 0; = 3, ";
        test("by x (0 .. 10): 0, nobody is ill", pair + "odds 0 0 0 = 1, odds 0 0 1 = 1, odds 1 0 0 = 0, odds 1 0 1 = 1, odds 0 -1 0 = BAD");
        test("by x (0 .. 10): 10, all are", pair + "odds 0 10 0 = 1, odds 0 10 1 = 1, odds 1 10 0 = 0, odds 1 10 1 = 1, odds 0 11 0 = BAD");
        test("by x (0 .. 10): 1 and 9", pair + "odds 0 1 0 = 91, odds 0 1 1 = 100, odds 1 9 0 = 9, odds 1 9 1 = 100");
        test("upper (what = 0), lower number (1)", pair + "odds 0 3 0 = 79, odds 0 3 1 = 100, odds 0 3 2 = BAD, odds 0 3 -1 = BAD");
        test("in least terms", pair + "odds 0 5 0 = 3, odds 0 5 1 = 4, odds 1 5 0 = 1, odds 1 5 1 = 4, odds 1 2 0 = 4, odds 1 2 1 = 25");
        test("ODDS: the last CHAIR, and the one behind it", pair + "odds 1 3 0 = 21, odds 2 3 0 = BAD, odds -1 3 0 = BAD");
        test("ODDS: one CHAIR always wins", "told lf;c1 0; = 2, odds 0 0 0 = 1, odds 0 7 0 = 1, odds 0 7 1 = 1, odds 0 10 1 = 1");
        test("ODDS: five CHAIRS", "told lf;" + FIVE + " = 6, odds 4 1 0 = 9, odds 4 1 1 = 100000, odds 0 1 0 = 90001, odds 0 1 1 = 100000");
        // An ill pusher of strength 1 still moves chair 0 by 1: in 4 minutes; chair 1 by a well one in 4 as well.
        test("(his STRENGTH is 1)", "told lf;c1 0;c9 0; = 3, odds 0 5 0 = 1, odds 0 5 1 = 1, sets 0 1 = 0, odds 1 5 0 = 1, odds 1 5 1 = 2");
        test("each PUSHER is ill: with the CHAIR that he pushes", "told lf;c1 0;c9 0;p0 9; = 4, changes 0 1 = 1, odds 1 0 0 = 0, odds 0 10 0 = 1");
        test("ODDS: greased, as NOW", pair + "greases 1 1 = 1, odds 1 10 0 = 1, odds 1 5 0 = 1, odds 1 5 1 = 2");
    }

    private static void ruled() {
        test("NONE (no WEEKS)", "now 3 = NONE, told lf;c1 0; = 2, now 3 = NONE, tuesday = 0, now 3 = 0, undo = 0, now 3 = NONE");
        test("RULED: the highest POLICY", "told lf;c1 3; = 2, tuesday = 0, now 3 = 3");
        test("of several the lowest", "told lf;c1 3;c1 0; = 3, tuesday = 0, now 3 = 3, sets 0 5 = 0, tuesday = 1, now 3 = 0",
            "sets 0 0 = 5, tuesday = 0, now 3 = 3");
        test("the POLICY of most WEEKS (by whoever was regent)", "told lf;c1 2;c1 1;c1 2; = 4, sets 0 5 = 0, tuesday = 1, tuesday = 1, now 3 = 1",
            "sets 0 0 = 5, tuesday = 0, now 3 = 1, sets 0 5 = 0, sets 1 5 = 0, tuesday = 2, now 3 = 1, tuesday = 2, now 3 = 2");
    }

    // ---- 4 kinds, images

    private static void kinds() {
        String two = "told lf;c4 0;c9 0; = 3, ";
        test("KINDS: the least and the most", two + "rate -1 0 = NO, rate 0 0 = 4, rate 5 0 = 4, rate 6 0 = NO, trace = 100002");
        test("RATE: the last CHAIR, and the one behind it", two + "rate 0 1 = 9, rate 0 2 = NO, rate 0 -1 = NO, trace = 1");
        test("RATE: no CHAIRS", "rate 0 0 = NO, trace = 0, told lf; = 1, rate 0 0 = NO, trace = 0");
        test("CHAIR its WEIGHT (1)", two + "trace = 0, rate 0 0 = 4, trace = 1, rate 0 1 = 9, trace = 2");
        test("WIDOW up, and its HANDICAP (10)", two + "sets 0 5 = 0, rate 1 0 = 9, trace = 11, rate 1 1 = 9, trace = 22");
        test("AUNT up less its GAIN (100)", two + "rate 2 0 = -2, trace = 101, rate 2 1 = 8, greases 1 1 = 1, rate 2 1 = 5, trace = 303");
        test("PUG twice up (1000)", two + "sets 0 3 = 0, rate 3 0 = 14, trace = 1011, rate 3 1 = 18, trace = 2022");
        test("VEIL up, and its number (10000)", two + "rate 4 0 = -2, trace = 10101, rate 4 1 = 9, trace = 20202");
        test("INFANT up, and WEEKS (100000)", two + "rate 5 1 = 9, tuesday = 0, rate 5 1 = 10, trace = 200002");
        test("What none is, where a number may be below 0: no RATE is NO", "told c4 0;c4 0;c5 0;c2 0;p0 5; = 5",
            "rate 4 1 = -1, rate 2 0 = -2, greases 2 1 = 1, rate 2 2 = -3, greases 3 1 = 2, rate 2 3 = -9, rate 2 4 = NO");
    }

    private static void images() {
        test("IMAGES 0, 1: neither is kept", "back 0 = STATE, back 1 = STATE, back -1 = BAD, back 2 = BAD, keep -1 = BAD, keep 2 = BAD");
        test("STATE: none was kept: the other one was", "told c1 0; = 1, keep 0 = 0, back 1 = STATE, back 0 = 0, keep 1 = 0, back 1 = 0");
        test("STATE: none was kept: refused, so all can be UNDONE", "told c1 0; = 1, sets 0 1 = 0, back 0 = STATE, back 2 = BAD, now 6 = 1, undo = 0, chair 0 3 = 0");
        test("IMAGES 0, 1 keep NOW", "told lf;c1 0;c1 0; = 3, tuesday = 0, changes 0 1 = 1, sets 0 5 = 0, greases 1 1 = 1, keep 0 = 1",
            "tuesday = 1, changes 0 1 = 0, sets 0 0 = 5, greases 1 0 = 0, keep 1 = 2, back 0 = 1",
            "chair 0 2 = 1, chair 1 2 = 0, chair 0 3 = 5, chair 1 4 = 1, now 0 = 1, chair 0 6 = 1, chair 1 6 = 0",
            "back 1 = 2, chair 0 2 = 0, chair 1 2 = 1, chair 0 3 = 0, chair 1 4 = 0, now 0 = 2, chair 1 6 = 1");
        test("IMAGES 0, 1 keep NOW: nothing else", "told lf;c1 0; = 2, keep 0 = 0, times 0 9 = 1, rate 0 0 = 1, write ab = 2, back 0 = 0",
            "count 2 = 1, trace = 1, count 3 = 2, count 0 = 1, count 1 = 1");
        test("nothing can be UNDONE behind back()", "told c1 0; = 1, sets 0 1 = 0, keep 0 = 0, sets 0 2 = 1, now 6 = 2, back 0 = 0, now 6 = 0",
            "undo = STATE, chair 0 3 = 1, sets 0 3 = 1, now 6 = 1, undo = 0, chair 0 3 = 1, undo = STATE");
        test("nothing can be UNDONE behind back(): but behind keep()", "told c1 0; = 1, sets 0 1 = 0, keep 0 = 0, now 6 = 1, undo = 0, chair 0 3 = 0, back 0 = 0, chair 0 3 = 1");
        test("An IMAGE is kept: over the one that was", "told c1 0; = 1, keep 0 = 0, sets 0 4 = 0, keep 0 = 0, sets 0 1 = 4, back 0 = 0, chair 0 3 = 4");
        test("All of that becomes as an IMAGE has it: and the IMAGE stays", "told c1 0; = 1, sets 0 2 = 0, keep 1 = 0, back 1 = 0, sets 0 5 = 2, back 1 = 0, chair 0 3 = 2");
        test("An IMAGE is kept: of nothing", "keep 1 = 0, back 1 = 0, back 0 = STATE, count 1 = 0");
    }

    private static void readAnew() {
        String used = "told lf;c1 0;c1 0;p0 9; = 4, tuesday = 0, changes 0 1 = 1, sets 0 5 = 0, greases 1 1 = 1, times 0 1 = 1, keep 0 = 1, keep 1 = 1, rate 0 0 = 1, ";
        String again = used + "told lf;c1 0;c1 0; = 3, ";
        test("Read anew: as told", again + "chair 0 2 = 0, chair 1 2 = 1, chair 0 3 = 0, chair 1 4 = 0, pusher 0 = 5");
        test("Read anew: no WEEKS", again + "now 0 = 0, chair 0 6 = 0, now 3 = NONE, tuesday = 0, now 0 = 1");
        test("Read anew: nothing TIMED", again + "count 2 = 0, forget = 0, times 0 1 = 1");
        test("Read anew: IMAGES are gone", again + "back 0 = STATE, back 1 = STATE, keep 0 = 0, back 0 = 0, back 1 = STATE");
        test("Read anew: nothing can be UNDONE", again + "now 6 = 0, undo = STATE");
        test("THE TEXT tells all anew, and is empty then", again + "count 3 = 0, clear = 0");
        test("THE TEXT tells all anew: nothing", used + "spa = 0, count 0 = 0, count 1 = 0, count 2 = 0, now 0 = 0, back 0 = STATE, chair 0 0 = BAD, cell 0 = BAD");
        test("THE TEXT tells all anew: fewer, then more", "told " + FIVE + "p4 9; = 6, sets 4 5 = 0, greases 4 1 = 1, told c1 0; = 1, chair 1 0 = BAD",
            "told " + FIVE + " = 5, chair 4 3 = 0, chair 4 4 = 0, chair 4 5 = 9, pusher 4 = 5");
        test("THE TEXT tells all anew: a shorter way", "told luuu;c9 0; = 2, alone 0 = 24, time 0 = 24, told lf;c9 0; = 2, alone 0 = 4, time 0 = 4",
            "told luu = -13, alone 0 = 4, told lf;c9 0; = 2, alone 0 = 4, fair -1 = 0, told lf; = 1, told c9 0;lf; = 2, alone 0 = 4");
        test("-10 less FAULT: nothing changes", used + "told lu;c9 3;c9 3;c9 3;p0 1;; = -33, count 3 = 24, count 0 = 1, cell 0 = 4, count 1 = 2, chair 0 0 = 1",
            "chair 0 1 = 0, pusher 0 = 9, chair 0 2 = 1, chair 0 3 = 5, chair 1 4 = 1, now 0 = 1, count 2 = 1, now 6 = 4, undo = 3, chair 1 4 = 0, back 1 = 1, back 0 = 1",
            "alone 0 = 6, trace = 1");
    }

    private static void orderOfRefusals() {
        test("the first of these: BAD ahead of FULL, type", "write " + "f".repeat(120) + " = 120, type 102 = FULL, type 256 = BAD, type -1 = BAD");
        test("the first of these: BAD ahead of FULL, times",
            "told lf;c1 0; = 2, times 0 1 = 1, times 0 1 = 2, times 0 1 = 3, times 0 1 = 4, times 0 1 = 5, times 0 1 = 6, times 0 0 = BAD, times 0 201 = BAD, times 1 1 = BAD, times 0 1 = FULL");
        test("the first of these: BAD ahead of STATE, no race", "told c1 0; = 1, time 1 = BAD, time 0 = STATE, place 1 = BAD, place 0 = STATE",
            "alone 1 = BAD, alone 0 = STATE, king 1 0 = BAD, king 0 1 = BAD, king 0 -2 = BAD, king 0 0 = STATE, fair 1 = BAD, fair -2 = BAD, fair 0 = STATE",
            "odds 1 0 0 = BAD, odds 0 11 0 = BAD, odds 0 0 2 = BAD, odds 0 0 0 = STATE, times 1 1 = BAD, times 0 0 = BAD, times 0 201 = BAD, times 0 1 = STATE");
        test("the first of these: BAD ahead of STATE, it is so", "told c1 0; = 1, sets 1 0 = BAD, sets 0 0 = STATE, greases 1 0 = BAD, greases 0 0 = STATE");
        test("the first of these: BAD ahead of STATE, none was kept", "back 2 = BAD, back 0 = STATE, back 1 = STATE");
        test("A new object: no CELLS, no CHAIRS", "count 0 = 0, count 1 = 0, count 2 = 0, count 3 = 0, trace = 0, now 0 = 0, now 1 = NONE",
            "now 2 = 0, now 3 = NONE, now 4 = 0, now 5 = 0, now 6 = 0, changes 0 1 = BAD, sets 0 1 = BAD, greases 0 1 = BAD, times 0 1 = BAD, time 0 = BAD");
    }
}
