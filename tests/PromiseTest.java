/** Each promise of the document by hand-made answers: ordinary inputs, edges, wrong inputs. */
public final class PromiseTest {
    private static final int BAD = -1, STATE = -2, FULL = -3, NONE = -9, NO = -1000000;
    private static final int LOW = Integer.MIN_VALUE, HIGH = Integer.MAX_VALUE;
    // Gains 6, 6, 6 over 28 points.
    private static final String THREE = "lffubdf;c4 0;c2 1;c6 2;p0 5;p1 4;p2 6;";
    // A well pusher brings either chair in in minute 1, one of strength 1 in minute 4.
    private static final String PAIR = "lf;c1 0;c1 3;";
    private static int wrong = 0;
    private static int asked = 0;

    private static void due(String what, long got, long want) {
        asked++;
        if (got == want) return;
        wrong++;
        System.out.println(what + " answered " + got + ", due is " + want);
    }

    private static void write(ChairRegents x, String text) {
        for (int i = 0; i < text.length(); i++) x.type(text.charAt(i));
    }

    private static ChairRegents told(String text) {
        ChairRegents x = new ChairRegents();
        write(x, text);
        if (x.spa() < 0) due("the test's own text " + text, -1, 0);
        return x;
    }

    private static void faulty(String text, int place) {
        ChairRegents x = new ChairRegents();
        write(x, text);
        due("promise 4: spa() of '" + text + "'", x.spa(), -10 - place);
        due("promise 4: letters behind a fault in '" + text + "'", x.count(3), text.length());
    }

    public static void main(String[] args) {
        constants();
        promise1New();
        promise2Type();
        promise3Clear();
        promise4SpaReads();
        promise4SpaFaults();
        promise4SpaStartsAnew();
        promise4RefusedSpaChangesNothing();
        promise5Chair();
        promise6Pusher();
        promise7Cell();
        promise8Now();
        promise8Ruled();
        promise9Tuesday();
        promise10Changes();
        promise11Sets();
        promise12Greases();
        promise13Undo();
        promise13UndoKnowsTen();
        promise13UndoDropsOldest();
        promise14Time();
        promise14Bends();
        promise15Place();
        promise16Alone();
        promise17King();
        promise18Fair();
        promise19Odds();
        promise20Times();
        promise20GuiltyAndDoubtful();
        promise21Forget();
        promise22Rate();
        promise23Keep();
        promise24Back();
        promise25Count();
        promise26Trace();
        orderOfRefusals();
        System.out.println(asked + " answers asked, " + wrong + " wrong");
        if (wrong != 0) System.exit(1);
    }

    private static void constants() {
        due("BAD", ChairRegents.BAD, BAD);
        due("STATE", ChairRegents.STATE, STATE);
        due("FULL", ChairRegents.FULL, FULL);
        due("NONE", ChairRegents.NONE, NONE);
        due("NO", ChairRegents.NO, NO);
    }

    private static void promise1New() {
        ChairRegents x = new ChairRegents();
        for (int what = 0; what < 4; what++) due("promise 1: count(" + what + ")", x.count(what), 0);
        due("promise 1: chair", x.chair(0, 0), BAD);
        due("promise 1: pusher", x.pusher(0), BAD);
        due("promise 1: cell", x.cell(0), BAD);
        int[] now = {0, NONE, 0, NONE, 0, 0, 0};
        for (int what = 0; what < 7; what++) due("promise 1: now(" + what + ")", x.now(what), now[what]);
        due("promise 1: undo", x.undo(), STATE);
        due("promise 1: forget", x.forget(), 0);
        due("promise 1: tuesday", x.tuesday(), STATE);
        due("promise 1: fair", x.fair(-1), STATE);
        due("promise 1: rate", x.rate(0, 0), NO);
        due("promise 1: trace", x.trace(), 0);
        due("promise 1: back", x.back(0), STATE);
    }

    private static void promise2Type() {
        ChairRegents x = new ChairRegents();
        due("promise 2: below 0", x.type(-1), BAD);
        due("promise 2: above 255", x.type(256), BAD);
        due("promise 2: lowest int", x.type(LOW), BAD);
        due("promise 2: highest int", x.type(HIGH), BAD);
        due("promise 2: 0", x.type(0), 1);
        due("promise 2: 255", x.type(255), 2);
        for (int i = 3; i <= 120; i++) due("promise 2: letter " + i, x.type('f'), i);
        due("promise 2: the 121st", x.type('f'), FULL);
        due("promise 2: wrong and full", x.type(256), BAD);
        due("promise 2: length stays", x.count(3), 120);
    }

    private static void promise3Clear() {
        ChairRegents x = new ChairRegents();
        due("promise 3: empty", x.clear(), 0);
        write(x, "x;y");
        due("promise 3: three letters", x.clear(), 3);
        due("promise 3: empty then", x.count(3), 0);
        write(x, "lf;");
        due("promise 3: what was cleared isn't read", x.spa(), 1);
        for (int i = 0; i < 120; i++) x.type(' ');
        due("promise 3: a full text", x.clear(), 120);
        due("promise 3: room again", x.type(' '), 1);
    }

    private static void promise4SpaReads() {
        ChairRegents x = new ChairRegents();
        due("promise 4: nothing", x.spa(), 0);
        write(x, "     ");
        due("promise 4: blanks", x.spa(), 0);
        due("promise 4: text is empty then", x.count(3), 0);
        write(x, "  l  fu db ;c 9 3 ; p0  1;c1 0;p 0 9;p1 2;");
        due("promise 4: items", x.spa(), 6);
        due("promise 4: cells", x.count(0), 4);
        due("promise 4: chairs", x.count(1), 2);
        due("promise 4: told again, the later", x.pusher(0), 9);
        due("promise 4: strength told", x.pusher(1), 2);
        write(x, "c1 0;lf;p0 1;");
        due("promise 4: promenade behind a chair", x.spa(), 3);
        write(x, "lffffffffffffffff;");
        due("promise 4: sixteen cells", x.spa(), 1);
        due("promise 4: sixteen", x.count(0), 16);
        due("promise 4: chairs are gone", x.count(1), 0);
        write(x, "c1 0;c2 1;c3 2;c4 3;c5 0;p4 1;p4 9;");
        due("promise 4: five chairs", x.spa(), 7);
        due("promise 4: cells are gone", x.count(0), 0);
        due("promise 4: no race without cells", x.tuesday(), STATE);
        due("promise 4: the fifth's pusher", x.pusher(4), 9);
    }

    private static void promise4SpaFaults() {
        faulty("f;", 0);
        faulty(";", 0);
        faulty("1", 0);
        faulty("  x", 2);
        faulty("L", 0);
        faulty("l", 1);
        faulty("l ", 2);
        faulty("l;", 1);
        faulty("lf", 2);
        faulty("lf  ", 4);
        faulty("lf;;", 3);
        faulty("lfl;", 2);
        faulty("lfc;", 2);
        faulty("lfx;", 2);
        faulty("lf 1;", 3);
        faulty("lf;l", 3);
        faulty("lf;c1 0;lf;", 8);
        faulty("lfffffffffffffffff;", 17);
        faulty("lffffffffffffffff", 17);
        faulty("c", 1);
        faulty("c;", 1);
        faulty("cc", 1);
        faulty("c0 0;", 1);
        faulty("c10 0;", 1);
        faulty("c100 0;", 1);
        faulty("c05 0;", 1);
        faulty("c99999999999999999999 0;", 1);
        faulty("c4294967297 0;", 1);
        faulty("c1 4;", 3);
        faulty("c1 00;", 3);
        faulty("c1;", 2);
        faulty("c1 ", 3);
        faulty("c1 -1;", 3);
        faulty("c1 0", 4);
        faulty("c1 0 0;", 5);
        faulty("c11;", 1);
        faulty("c1 0;c1 0;c1 0;c1 0;c1 0;c1 0;", 25);
        faulty("p", 1);
        faulty("p0 1;", 1);
        faulty("p0 1;c1 0;", 1);
        faulty("c1 0;p1 1;", 6);
        faulty("c1 0;p00 1;", 6);
        faulty("c1 0;p0;", 7);
        faulty("c1 0;p0 0;", 8);
        faulty("c1 0;p0 10;", 8);
        faulty("c1 0;p0 09;", 8);
        faulty("c1 0;p0 1", 9);
        faulty("c1 0;p0 1 1;", 10);
        faulty("c1 0;p0 1;x", 10);
        faulty("f x", 0);
        ChairRegents x = new ChairRegents();
        write(x, "lf;");
        x.type(9);
        due("promise 4: a tab is no blank", x.spa(), -13);
        x.clear();
        x.type(0);
        due("promise 4: letter 0", x.spa(), -10);
        x.clear();
        write(x, "lf;");
        x.type(255);
        due("promise 4: letter 255", x.spa(), -13);
        x.clear();
        for (int i = 0; i < 119; i++) x.type(' ');
        x.type('l');
        due("promise 4: the longest text ends too early", x.spa(), -130);
    }

    private static void promise4SpaStartsAnew() {
        ChairRegents x = told(PAIR + "p0 9;");
        x.tuesday();
        x.changes(0, 1);
        x.sets(0, 3);
        x.greases(1, 1);
        x.times(0, 4);
        x.keep(0);
        x.keep(1);
        x.rate(0, 0);
        write(x, PAIR);
        due("promise 4: read anew", x.spa(), 3);
        due("promise 4: anew, weeks", x.now(0), 0);
        due("promise 4: anew, undone", x.now(6), 0);
        due("promise 4: anew, undo", x.undo(), STATE);
        due("promise 4: anew, timed", x.count(2), 0);
        due("promise 4: anew, image 0", x.back(0), STATE);
        due("promise 4: anew, image 1", x.back(1), STATE);
        due("promise 4: anew, pushers", x.chair(0, 2), 0);
        due("promise 4: anew, pushers", x.chair(1, 2), 1);
        due("promise 4: anew, handicap", x.chair(0, 3), 0);
        due("promise 4: anew, grease", x.chair(1, 4), 0);
        due("promise 4: anew, regent", x.chair(0, 6), 0);
        due("promise 4: anew, strength not told", x.pusher(0), 5);
        due("promise 4: anew, trace stays", x.trace(), 1);
        due("promise 4: empty text", x.spa(), 0);
        due("promise 4: empty text, no chairs", x.count(1), 0);
        due("promise 4: empty text, no cells", x.count(0), 0);
    }

    private static void promise4RefusedSpaChangesNothing() {
        ChairRegents x = told(PAIR);
        x.tuesday();
        x.sets(0, 2);
        x.keep(0);
        x.times(0, 4);
        write(x, "lbbb;c9 1;p0 1;c9 2;c9 3;!");
        due("promise 4: refused", x.spa(), -35);
        due("promise 4: refused, cells", x.count(0), 1);
        due("promise 4: refused, cost", x.cell(0), 4);
        due("promise 4: refused, chairs", x.count(1), 2);
        due("promise 4: refused, weight", x.chair(0, 0), 1);
        due("promise 4: refused, policy", x.chair(1, 1), 3);
        due("promise 4: refused, strength", x.pusher(0), 5);
        due("promise 4: refused, handicap", x.chair(0, 3), 2);
        due("promise 4: refused, weeks", x.now(0), 1);
        due("promise 4: refused, timed", x.count(2), 1);
        due("promise 4: refused, letters", x.count(3), 26);
        due("promise 4: refused, alone", x.alone(1), 1);
        due("promise 4: refused, image", x.back(0), 1);
        due("promise 4: refused again", x.spa(), -35);
    }

    private static void promise5Chair() {
        ChairRegents x = told("lf;c7 2;c9 3;p1 4;");
        int[] first = {7, 2, 0, 0, 0, 3, 0};
        int[] second = {9, 3, 1, 0, 0, 1, 0};
        for (int what = 0; what < 7; what++) {
            due("promise 5: chair(0, " + what + ")", x.chair(0, what), first[what]);
            due("promise 5: chair(1, " + what + ")", x.chair(1, what), second[what]);
        }
        x.greases(1, 1);
        due("promise 5: grease comes on top of the least gain", x.chair(1, 5), 4);
        due("promise 5: greased", x.chair(1, 4), 1);
        x.changes(0, 1);
        due("promise 5: who pushes", x.chair(0, 2), 1);
        due("promise 5: gain by another pusher", x.chair(0, 5), 1);
        due("promise 5: gain by another pusher, greased", x.chair(1, 5), 4);
        x.sets(0, 5);
        due("promise 5: handicap", x.chair(0, 3), 5);
        x.tuesday();
        due("promise 5: regent", x.chair(1, 6), 1);
        due("promise 5: not regent", x.chair(0, 6), 0);
        due("promise 5: no such chair", x.chair(2, 0), BAD);
        due("promise 5: below 0", x.chair(-1, 0), BAD);
        due("promise 5: far off", x.chair(HIGH, 0), BAD);
        due("promise 5: what below 0", x.chair(0, -1), BAD);
        due("promise 5: what above 6", x.chair(0, 7), BAD);
    }

    private static void promise6Pusher() {
        ChairRegents x = told("c7 2;c9 3;c1 1;p1 4;p2 1;p2 9;");
        due("promise 6: not told", x.pusher(0), 5);
        due("promise 6: told", x.pusher(1), 4);
        due("promise 6: told again", x.pusher(2), 9);
        x.changes(0, 1);
        due("promise 6: a pusher's, not a chair's", x.pusher(0), 5);
        due("promise 6: no such one", x.pusher(3), BAD);
        due("promise 6: below 0", x.pusher(-1), BAD);
        due("promise 6: lowest", x.pusher(LOW), BAD);
    }

    private static void promise7Cell() {
        ChairRegents x = told("lfudb;");
        int[] costs = {4, 8, 2, 6};
        for (int k = 0; k < 4; k++) due("promise 7: cell(" + k + ")", x.cell(k), costs[k]);
        due("promise 7: behind the last one", x.cell(4), BAD);
        due("promise 7: below 0", x.cell(-1), BAD);
        due("promise 7: highest", x.cell(HIGH), BAD);
    }

    private static void promise8Now() {
        ChairRegents x = told(PAIR + "p0 9;p1 1;");
        due("promise 8: weeks", x.now(0), 0);
        due("promise 8: first", x.now(1), 0);
        due("promise 8: kings", x.now(2), 3);
        due("promise 8: ruled", x.now(3), NONE);
        due("promise 8: undone", x.now(6), 0);
        x.sets(0, 5);
        due("promise 8: first by handicap", x.now(1), 1);
        due("promise 8: kings by handicap", x.now(2), 2);
        due("promise 8: undone", x.now(6), 1);
        due("promise 8: below 0", x.now(-1), BAD);
        due("promise 8: above 6", x.now(7), BAD);
        due("promise 8: asked, nothing is changed", x.chair(0, 2), 0);
        ChairRegents y = told("c1 0;c1 0;");
        due("promise 8: no race, first", y.now(1), NONE);
        due("promise 8: no race, kings", y.now(2), 0);
        due("promise 8: no race, guilty", y.now(4), 0);
        due("promise 8: no race, doubtful", y.now(5), 0);
        ChairRegents z = told(PAIR);
        due("promise 8: like ones, the first is in first", z.now(2), 1);
    }

    private static void promise8Ruled() {
        ChairRegents x = told("lf;c1 3;c1 1;c1 3;");
        x.tuesday();
        due("promise 8: ruled by one", x.now(3), 3);
        x.sets(0, 5);
        x.tuesday();
        due("promise 8: ruled, of several the lowest", x.now(3), 1);
        x.tuesday();
        due("promise 8: ruled by most weeks", x.now(3), 1);
        x.sets(1, 5);
        x.tuesday();
        due("promise 8: two each", x.now(3), 1);
        x.tuesday();
        due("promise 8: chairs of one policy together", x.now(3), 3);
    }

    private static void promise9Tuesday() {
        ChairRegents x = told(PAIR);
        due("promise 9: the first one", x.tuesday(), 0);
        x.sets(0, 1);
        due("promise 9: by handicap", x.tuesday(), 1);
        due("promise 9: weeks", x.now(0), 2);
        due("promise 9: counted", x.chair(0, 6), 1);
        due("promise 9: counted", x.chair(1, 6), 1);
        due("promise 9: no chairs", told("lf;").tuesday(), STATE);
        due("promise 9: no cells", told("c1 0;").tuesday(), STATE);
        // More calls than the document promises an object, but no other way leads to 999 weeks.
        for (int week = 3; week <= 999; week++) x.tuesday();
        due("promise 9: weeks at their most", x.now(0), 999);
        due("promise 9: no more", x.tuesday(), STATE);
        due("promise 9: weeks stay", x.now(0), 999);
        due("promise 9: nothing to be undone came", x.undo(), 9);
        due("promise 9: room again", x.tuesday(), 1);
    }

    private static void promise10Changes() {
        ChairRegents x = told("lf;c1 0;c2 0;c3 0;");
        due("promise 10: who pushes the first one", x.changes(0, 2), 2);
        due("promise 10: the other", x.chair(2, 2), 0);
        due("promise 10: one more", x.changes(2, 1), 1);
        due("promise 10: the other", x.chair(1, 2), 0);
        due("promise 10: who stays", x.chair(0, 2), 2);
        due("promise 10: alike", x.changes(1, 1), BAD);
        due("promise 10: first wrong", x.changes(3, 0), BAD);
        due("promise 10: second wrong", x.changes(0, 3), BAD);
        due("promise 10: below 0", x.changes(-1, 0), BAD);
        due("promise 10: below 0", x.changes(0, LOW), BAD);
        due("promise 10: refused isn't known", x.now(6), 2);
        due("promise 10: no race", told("c1 0;c1 0;").changes(1, 0), 0);
    }

    private static void promise11Sets() {
        ChairRegents x = told("lf;c1 0;c2 0;");
        due("promise 11: what it was", x.sets(1, 5), 0);
        due("promise 11: what it was", x.sets(1, 2), 5);
        due("promise 11: is so", x.sets(1, 2), STATE);
        due("promise 11: is so at first", x.sets(0, 0), STATE);
        due("promise 11: to 0", x.sets(1, 0), 2);
        due("promise 11: above 5", x.sets(1, 6), BAD);
        due("promise 11: below 0", x.sets(1, -1), BAD);
        due("promise 11: no chair", x.sets(2, 1), BAD);
        due("promise 11: no chair", x.sets(-1, 1), BAD);
        due("promise 11: refused isn't known", x.now(6), 3);
        due("promise 11: no race", told("c1 0;").sets(0, 1), 0);
    }

    private static void promise12Greases() {
        ChairRegents x = told("lf;c1 0;c2 0;c3 0;");
        due("promise 12: one", x.greases(1, 1), 1);
        due("promise 12: two", x.greases(2, 1), 2);
        due("promise 12: is so", x.greases(2, 1), STATE);
        due("promise 12: isn't so", x.greases(0, 0), STATE);
        due("promise 12: no more", x.greases(1, 0), 1);
        due("promise 12: the last", x.greases(2, 0), 0);
        due("promise 12: above 1", x.greases(0, 2), BAD);
        due("promise 12: below 0", x.greases(0, -1), BAD);
        due("promise 12: no chair", x.greases(3, 1), BAD);
        due("promise 12: no chair", x.greases(-1, 1), BAD);
        due("promise 12: refused isn't known", x.now(6), 4);
        due("promise 12: no race", told("c1 0;").greases(0, 1), 1);
    }

    private static void promise13Undo() {
        ChairRegents x = told("lf;c1 0;c1 1;c1 2;");
        x.tuesday();
        x.changes(0, 1);
        x.changes(1, 2);
        x.sets(2, 4);
        x.sets(2, 1);
        x.greases(0, 1);
        x.greases(0, 0);
        due("promise 13: refused aren't undone", x.sets(2, 1), STATE);
        due("promise 13: grease again", x.undo(), 6);
        due("promise 13: greased", x.chair(0, 4), 1);
        due("promise 13: not greased", x.undo(), 5);
        due("promise 13: not greased", x.chair(0, 4), 0);
        due("promise 13: handicap", x.undo(), 4);
        due("promise 13: handicap was", x.chair(2, 3), 4);
        due("promise 13: handicap", x.undo(), 3);
        due("promise 13: handicap was", x.chair(2, 3), 0);
        due("promise 13: pushers", x.undo(), 2);
        due("promise 13: pushers were", x.chair(1, 2), 0);
        due("promise 13: pushers were", x.chair(2, 2), 2);
        due("promise 13: pushers", x.undo(), 1);
        due("promise 13: pushers were", x.chair(0, 2), 0);
        due("promise 13: week is there", x.now(0), 1);
        due("promise 13: tuesday", x.undo(), 0);
        due("promise 13: weeks", x.now(0), 0);
        due("promise 13: regent", x.chair(0, 6), 0);
        due("promise 13: ruled", x.now(3), NONE);
        due("promise 13: none", x.undo(), STATE);
    }

    private static void promise13UndoKnowsTen() {
        ChairRegents x = told("lf;c1 0;");
        for (int i = 1; i <= 13; i++) x.sets(0, i % 6);
        due("promise 13: ten are known", x.now(6), 10);
        for (int i = 9; i >= 0; i--) due("promise 13: more to undo", x.undo(), i);
        due("promise 13: older ones are lost", x.undo(), STATE);
        due("promise 13: as behind the third", x.chair(0, 3), 3);
        due("promise 13: done anew", x.sets(0, 4), 3);
        due("promise 13: one is known", x.now(6), 1);
    }

    private static void promise13UndoDropsOldest() {
        ChairRegents x = told("lf;c1 0;c1 0;c1 0;");
        x.sets(0, 1);
        x.tuesday();
        x.changes(0, 2);
        x.sets(1, 2);
        x.greases(2, 1);
        x.sets(1, 3);
        x.changes(1, 2);
        x.tuesday();
        x.greases(0, 1);
        x.sets(2, 5);
        x.greases(1, 1);
        for (int i = 9; i >= 0; i--) due("promise 13: deeds of all kinds", x.undo(), i);
        int[] handicaps = {1, 0, 0};
        for (int c = 0; c < 3; c++) {
            due("promise 13: pusher of " + c, x.chair(c, 2), c);
            due("promise 13: handicap of " + c, x.chair(c, 3), handicaps[c]);
            due("promise 13: grease of " + c, x.chair(c, 4), 0);
            due("promise 13: regent " + c, x.chair(c, 6), 0);
        }
        due("promise 13: weeks", x.now(0), 0);
    }

    private static void promise14Time() {
        ChairRegents x = told(THREE);
        for (int c = 0; c < 3; c++) due("promise 14: time(" + c + ")", x.time(c), 5);
        x.sets(0, 3);
        due("promise 14: starts later", x.time(0), 8);
        due("promise 14: no chair", x.time(3), BAD);
        due("promise 14: below 0", x.time(-1), BAD);
        due("promise 14: no race", told("c1 0;").time(0), STATE);
        ChairRegents slow = told("luuuuuuuuuuuuuuuu;c9 0;p0 1;");
        due("promise 14: sixteen slopes by 1", slow.time(0), 128);
        slow.sets(0, 5);
        due("promise 14: the latest", slow.time(0), 133);
        ChairRegents quick = told("lddd;c1 0;p0 9;");
        due("promise 14: several cells in a minute", quick.time(0), 1);
    }

    private static void promise14Bends() {
        // Gains 2 and 4: chair 1 is in the bend in minutes 1 and 2, so chair 0 enters in minute 4.
        ChairRegents x = told("lfbf;c8 0;c6 0;");
        due("promise 14: held up by a bend", x.time(0), 8);
        due("promise 14: in the bend", x.time(1), 4);
        // Both gain 7: chair 0 is in the bend with 3, chair 1 keeps just 4 of its 7.
        ChairRegents y = told("lfbuf;c3 0;c3 0;");
        due("promise 14: ahead by number", y.time(0), 4);
        due("promise 14: points are cut", y.time(1), 4);
        ChairRegents z = told("lfbuuf;c3 0;c3 0;");
        due("promise 14: 30 points by 7", z.time(0), 5);
        due("promise 14: 30 points by 7, less the 3 cut", z.time(1), 5);
        // Gains of 1: the second is held up in minutes 4 to 9 and 15, and has 1 left at either bend.
        ChairRegents w = told("lfbb;c9 0;c9 0;p0 5;p1 5;");
        due("promise 14: by 1, first", w.time(0), 16);
        due("promise 14: by 1, second behind it", w.time(1), 21);
        ChairRegents start = told("lbf;c8 0;c6 0;c4 0;");
        due("promise 14: cell 0 holds all", start.time(2), 2);
        due("promise 14: cell 0 holds all", start.time(1), 3);
        due("promise 14: cell 0 holds all", start.time(0), 5);
        ChairRegents last = told("lfb;c8 0;c8 0;p0 9;p1 9;");
        due("promise 14: who is in is in no bend", last.time(0), 1);
        due("promise 14: who is in is in no bend", last.time(1), 1);
    }

    private static void promise15Place() {
        ChairRegents x = told(THREE);
        for (int k = 0; k < 3; k++) due("promise 15: like ones by numbers", x.place(k), k);
        x.sets(0, 1);
        x.greases(2, 1);
        // Chair 2 holds chair 1 up ahead of the bend in minute 3, so that chair 0 is there first.
        int[] places = {2, 0, 1};
        for (int k = 0; k < 3; k++) due("promise 15: place(" + k + ")", x.place(k), places[k]);
        due("promise 15: no such place", x.place(3), BAD);
        due("promise 15: below 0", x.place(-1), BAD);
        due("promise 15: no race", told("c1 0;").place(0), STATE);
    }

    private static void promise16Alone() {
        ChairRegents x = told("lfbf;c8 0;c6 0;");
        due("promise 16: nobody is in the way", x.alone(0), 7);
        due("promise 16: the other", x.alone(1), 4);
        x.sets(0, 5);
        due("promise 16: with its handicap", x.alone(0), 12);
        x.greases(0, 1);
        due("promise 16: greased", x.alone(0), 8);
        due("promise 16: no chair", x.alone(2), BAD);
        due("promise 16: below 0", x.alone(-1), BAD);
        due("promise 16: no race", told("c1 0;").alone(0), STATE);
        write(x, "ld;c8 0;");
        x.spa();
        due("promise 16: on a promenade told anew", x.alone(0), 1);
    }

    private static void promise17King() {
        ChairRegents x = told(PAIR + "p0 9;p1 1;");
        due("promise 17: wins as it is", x.king(0, -1), 0);
        due("promise 17: wins as it is", x.king(0, 1), 1);
        due("promise 17: by two", x.king(1, -1), 2);
        due("promise 17: by two", x.king(1, 0), 1);
        due("promise 17: by two", x.king(1, 1), 0);
        x.changes(0, 1);
        due("promise 17: another than now", x.king(1, -1), 0);
        due("promise 17: another than now", x.king(1, 0), 1);
        due("promise 17: another than now", x.king(0, -1), 2);
        due("promise 17: another than now", x.king(0, 0), 0);
        due("promise 17: nothing is changed", x.chair(0, 2), 1);
        due("promise 17: no chair", x.king(2, 0), BAD);
        due("promise 17: no chair", x.king(-1, 0), BAD);
        due("promise 17: no k", x.king(0, 2), BAD);
        due("promise 17: no k", x.king(0, -2), BAD);
        due("promise 17: no race", told("c1 0;").king(0, -1), STATE);
        ChairRegents y = told(PAIR);
        due("promise 17: none", y.king(1, -1), NONE);
        due("promise 17: none", y.king(1, 0), NONE);
        // Chair 2 wins by pusher 3 or 4 alone: the ways of two changes are 01324 and 01432.
        ChairRegents z = told("luu;c1 0;c1 0;c1 0;c1 0;c1 0;p0 1;p1 1;p2 1;p3 9;p4 9;");
        due("promise 17: of several", z.king(2, -1), 2);
        int[] way = {0, 1, 3, 2, 4};
        // By 01324 pusher 4's chair 4 is in as early, but behind chair 2.
        for (int k = 0; k < 5; k++) due("promise 17: the first way", z.king(2, k), way[k]);
    }

    private static void promise18Fair() {
        // 16 points by gains 8, 4 and 2: 2, 4 and 8 minutes.
        ChairRegents x = told("lffff;c2 0;c6 0;c8 0;");
        due("promise 18: differ", x.fair(-1), 1);
        due("promise 18: held back most", x.fair(0), 5);
        due("promise 18: held back", x.fair(1), 3);
        due("promise 18: not held back", x.fair(2), 0);
        x.sets(2, 5);
        due("promise 18: handicaps as now don't matter", x.fair(2), 0);
        due("promise 18: nothing is changed", x.chair(2, 3), 5);
        x.greases(2, 1);
        due("promise 18: greased, differ", x.fair(-1), 0);
        due("promise 18: greased", x.fair(0), 2);
        due("promise 18: greased", x.fair(1), 0);
        due("promise 18: greased", x.fair(2), 0);
        due("promise 18: no chair", x.fair(3), BAD);
        due("promise 18: below -1", x.fair(-2), BAD);
        due("promise 18: no race", told("c1 0;").fair(0), STATE);
        due("promise 18: no race without chairs", told("lf;").fair(-1), STATE);
        ChairRegents one = told("lf;c1 0;");
        due("promise 18: one alone", one.fair(-1), 0);
        due("promise 18: one alone", one.fair(0), 0);
        ChairRegents far = told("luuuuuuuuuuuuuuuu;c1 0;c9 0;p0 9;p1 1;");
        due("promise 18: far apart", far.fair(-1), 128 - 13);
        due("promise 18: far apart", far.fair(0), 5);
    }

    private static void promise19Odds() {
        // Chair 0 wins but where it alone has an ill pusher.
        ChairRegents x = told(PAIR);
        due("promise 19: upper", x.odds(0, 3, 0), 79);
        due("promise 19: lower", x.odds(0, 3, 1), 100);
        due("promise 19: the other", x.odds(1, 3, 0), 21);
        due("promise 19: least terms", x.odds(0, 5, 0), 3);
        due("promise 19: least terms", x.odds(0, 5, 1), 4);
        due("promise 19: nobody is ill", x.odds(0, 0, 0), 1);
        due("promise 19: nobody is ill", x.odds(0, 0, 1), 1);
        due("promise 19: never", x.odds(1, 0, 0), 0);
        due("promise 19: never", x.odds(1, 0, 1), 1);
        due("promise 19: all are ill", x.odds(0, 10, 0), 1);
        due("promise 19: all are ill", x.odds(1, 10, 1), 1);
        due("promise 19: x above 10", x.odds(0, 11, 0), BAD);
        due("promise 19: x below 0", x.odds(0, -1, 0), BAD);
        due("promise 19: what above 1", x.odds(0, 1, 2), BAD);
        due("promise 19: what below 0", x.odds(0, 1, -1), BAD);
        due("promise 19: no chair", x.odds(2, 1, 0), BAD);
        due("promise 19: no race", told("c1 0;").odds(0, 1, 0), STATE);
        // Chair 0's ill pusher needs 4 minutes, chair 1's well one 2, so chair 1 wins by just that.
        ChairRegents weak = told("lf;c1 0;c8 0;");
        due("promise 19: strength of the ill is 1", weak.odds(0, 5, 0), 3);
        due("promise 19: strength of the ill is 1", weak.odds(1, 5, 1), 4);
        ChairRegents five = told("lf;c1 0;c1 0;c1 0;c1 0;c1 0;");
        due("promise 19: five, the last", five.odds(4, 1, 0), 9);
        due("promise 19: five, the last", five.odds(4, 1, 1), 100000);
    }

    private static void promise20Times() {
        ChairRegents x = told(PAIR);
        due("promise 20: one", x.times(0, 1), 1);
        due("promise 20: two", x.times(1, 200), 2);
        due("promise 20: the same again", x.times(1, 200), 3);
        due("promise 20: t is 0", x.times(0, 0), BAD);
        due("promise 20: t above 200", x.times(0, 201), BAD);
        due("promise 20: no chair", x.times(2, 1), BAD);
        due("promise 20: no chair", x.times(-1, 1), BAD);
        for (int i = 4; i <= 6; i++) due("promise 20: more", x.times(0, i), i);
        due("promise 20: full", x.times(0, 1), FULL);
        due("promise 20: six stay", x.count(2), 6);
        due("promise 20: it can't be undone", x.undo(), STATE);
        due("promise 20: no race", told("c1 0;").times(0, 1), STATE);
    }

    private static void promise20GuiltyAndDoubtful() {
        // Alone in 4 minutes, greased in 1; chair 1 in 1 minute both ways.
        ChairRegents x = told("lf;c9 0;c1 0;p0 1;p1 9;");
        due("promise 20: nothing timed", x.now(4), 0);
        due("promise 20: nothing timed", x.now(5), 0);
        x.times(0, 1);
        x.times(1, 1);
        due("promise 20: guilty", x.now(4), 1);
        due("promise 20: not doubtful", x.now(5), 0);
        x.greases(0, 1);
        due("promise 20: greased now or not, guilty", x.now(4), 1);
        x.times(0, 4);
        due("promise 20: some of each, not guilty", x.now(4), 0);
        due("promise 20: some of each, doubtful", x.now(5), 1);
        x.times(1, 2);
        due("promise 20: as neither", x.now(5), 3);
        x.forget();
        x.times(0, 4);
        due("promise 20: as if not, not guilty", x.now(4), 0);
        due("promise 20: as if not, not doubtful", x.now(5), 0);
        x.sets(0, 3);
        due("promise 20: by its handicap now", x.now(4), 1);
        x.changes(0, 1);
        due("promise 20: by its pusher now", x.now(4), 0);
        due("promise 20: by its pusher now", x.now(5), 0);
        x.changes(0, 1);
        due("promise 20: by its pusher now", x.now(4), 1);
    }

    private static void promise21Forget() {
        ChairRegents x = told(PAIR);
        due("promise 21: nothing", x.forget(), 0);
        x.times(0, 9);
        x.times(0, 9);
        due("promise 21: two", x.forget(), 2);
        due("promise 21: nothing then", x.count(2), 0);
        due("promise 21: nobody is doubtful then", x.now(5), 0);
        due("promise 21: from the start", x.times(1, 9), 1);
    }

    private static void promise22Rate() {
        // Gain 1 of chair 0, 2 * 5 - 4 = 6 of chair 1.
        ChairRegents x = told("lf;c9 0;c4 0;p0 1;");
        int[] first = {9, 9, 8, 18, 8, 9};
        int[] second = {4, 4, -2, 8, -1, 4};
        for (int kind = 0; kind < 6; kind++) {
            due("promise 22: rate(" + kind + ", 0)", x.rate(kind, 0), first[kind]);
            due("promise 22: rate(" + kind + ", 1)", x.rate(kind, 1), second[kind]);
        }
        x.sets(1, 3);
        x.greases(1, 1);
        x.tuesday();
        x.tuesday();
        int[] later = {4, 7, -5, 14, -4, 6};
        for (int kind = 0; kind < 6; kind++) due("promise 22: later, " + kind, x.rate(kind, 1), later[kind]);
        due("promise 22: no kind", x.rate(6, 0), NO);
        due("promise 22: no kind", x.rate(-1, 0), NO);
        due("promise 22: no chair", x.rate(0, 2), NO);
        due("promise 22: no chair", x.rate(0, -1), NO);
        due("promise 22: no race", told("c3 0;").rate(0, 0), 3);
    }

    private static void promise23Keep() {
        ChairRegents x = told(PAIR);
        due("promise 23: no weeks", x.keep(0), 0);
        x.tuesday();
        due("promise 23: weeks", x.keep(1), 1);
        due("promise 23: above 1", x.keep(2), BAD);
        due("promise 23: below 0", x.keep(-1), BAD);
        due("promise 23: undo stays", x.now(6), 1);
        due("promise 23: undone behind keep", x.undo(), 0);
        due("promise 23: the image has it", x.back(1), 1);
        due("promise 23: the other has not", x.back(0), 0);
        x.tuesday();
        x.tuesday();
        due("promise 23: kept over", x.keep(0), 2);
        due("promise 23: kept over", x.back(0), 2);
        due("promise 23: of a new object", new ChairRegents().keep(0), 0);
    }

    private static void promise24Back() {
        ChairRegents x = told("lf;c1 0;c1 1;");
        due("promise 24: none kept", x.back(0), STATE);
        due("promise 24: above 1", x.back(2), BAD);
        due("promise 24: below 0", x.back(-1), BAD);
        x.tuesday();
        x.changes(0, 1);
        x.sets(1, 2);
        x.greases(1, 1);
        x.keep(1);
        due("promise 24: the other one isn't kept", x.back(0), STATE);
        due("promise 24: refused, undo stays", x.now(6), 4);
        x.times(0, 3);
        x.rate(0, 0);
        x.tuesday();
        x.changes(0, 1);
        x.sets(1, 0);
        x.sets(0, 5);
        x.greases(1, 0);
        x.tuesday();
        due("promise 24: back", x.back(1), 1);
        int[] first = {1, 0, 1, 0, 0, 9, 1};
        int[] second = {1, 1, 0, 2, 1, 12, 0};
        for (int what = 0; what < 7; what++) {
            due("promise 24: chair(0, " + what + ")", x.chair(0, what), first[what]);
            due("promise 24: chair(1, " + what + ")", x.chair(1, what), second[what]);
        }
        due("promise 24: nothing can be undone", x.now(6), 0);
        due("promise 24: nothing can be undone", x.undo(), STATE);
        due("promise 24: timed stays", x.count(2), 1);
        due("promise 24: trace stays", x.trace(), 1);
        x.sets(1, 4);
        due("promise 24: again, as it was kept", x.back(1), 1);
        due("promise 24: again, as it was kept", x.chair(1, 3), 2);
    }

    private static void promise25Count() {
        ChairRegents x = told("lfb;c1 0;c1 1;c3 2;");
        x.times(0, 1);
        write(x, "hello");
        due("promise 25: cells", x.count(0), 2);
        due("promise 25: chairs", x.count(1), 3);
        due("promise 25: timed", x.count(2), 1);
        due("promise 25: letters", x.count(3), 5);
        due("promise 25: above 3", x.count(4), BAD);
        due("promise 25: below 0", x.count(-1), BAD);
    }

    private static void promise26Trace() {
        long[] marks = {1, 11, 101, 1011, 10101, 100001};
        for (int kind = 0; kind < 6; kind++) {
            ChairRegents x = told("c1 0;");
            x.rate(kind, 0);
            due("promise 26: trace of " + kind, x.trace(), marks[kind]);
            x.rate(kind, 0);
            due("promise 26: trace of " + kind + ", twice", x.trace(), 2 * marks[kind]);
            x.rate(kind, 1);
            x.rate(6, 0);
            due("promise 26: refused adds nothing", x.trace(), 2 * marks[kind]);
        }
        ChairRegents y = told("c1 0;");
        for (int i = 0; i < 500; i++) y.rate(5, 0);
        due("promise 26: large", y.trace(), 50000500L);
    }

    private static void orderOfRefusals() {
        ChairRegents x = told("c1 0;");
        due("refused: BAD ahead of STATE, time", x.time(1), BAD);
        due("refused: BAD ahead of STATE, place", x.place(1), BAD);
        due("refused: BAD ahead of STATE, alone", x.alone(1), BAD);
        due("refused: BAD ahead of STATE, king", x.king(0, 1), BAD);
        due("refused: BAD ahead of STATE, fair", x.fair(1), BAD);
        due("refused: BAD ahead of STATE, odds", x.odds(0, 11, 0), BAD);
        due("refused: BAD ahead of STATE, times", x.times(0, 201), BAD);
        due("refused: BAD ahead of STATE, back", x.back(2), BAD);
        ChairRegents y = told(PAIR);
        for (int i = 0; i < 6; i++) y.times(0, 1);
        due("refused: BAD ahead of FULL", y.times(0, 201), BAD);
    }
}
