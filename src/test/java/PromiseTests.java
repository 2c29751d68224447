/** For each promise of the document: ordinary inputs, the edges that it names, and wrong inputs. */
public final class PromiseTests {
    private static final int BAD = -1, STATE = -2, FULL = -3, NONE = -9, NO = -1000000;
    private static final int LOW = Integer.MIN_VALUE, HIGH = Integer.MAX_VALUE;
    private static int checks = 0;
    private static int wrong = 0;

    private static void due(String what, int got, int want) {
        checks++;
        if (got != want) {
            wrong++;
            System.out.println(what + " answered " + got + ", due is " + want);
        }
    }

    private static int tell(StrikePasses x, String text) {
        for (int i = 0; i < text.length(); i++) {
            x.type(text.charAt(i));
        }
        return x.page();
    }

    private static StrikePasses told(String text) {
        StrikePasses x = new StrikePasses();
        int items = tell(x, text);
        if (items < 0) {
            wrong++;
            System.out.println("\"" + text + "\" was refused: " + items);
        }
        return x;
    }

    /** A page that fails is not emptied, so each text has an object of its own. */
    private static void fault(String text, int place) {
        StrikePasses x = new StrikePasses();
        due("4: page() of \"" + text + "\"", tell(x, text), -10 - place);
        due("4: the text is still there", x.count(7), text.length());
    }

    private static void promise1ANewObject() {
        StrikePasses x = new StrikePasses();
        int[] counts = {0, 0, 0, 2, 1, 12, 0, 0, 0};
        for (int i = 0; i < counts.length; i++) {
            due("1: count(" + i + ")", x.count(i), counts[i]);
        }
        for (int letter = 0; letter < 6; letter++) {
            for (int column = 0; column < 3; column++) {
                due("1: letter", x.letter(letter, column), 0);
            }
        }
        due("1: line(0, -1)", x.line(0, -1), BAD);
        due("1: back(0)", x.back(0), STATE);
        due("1: back(1)", x.back(1), STATE);
        due("1: undo()", x.undo(), STATE);
        due("1: way(2)", x.way(2), 0);
    }

    private static void promise2Type() {
        StrikePasses x = new StrikePasses();
        due("2: type(-1)", x.type(-1), BAD);
        due("2: type(256)", x.type(256), BAD);
        due("2: type(LOW)", x.type(LOW), BAD);
        due("2: type(HIGH)", x.type(HIGH), BAD);
        due("2: type(0)", x.type(0), 1);
        due("2: type(255)", x.type(255), 2);
        for (int i = 3; i <= 120; i++) {
            due("2: type(32)", x.type(32), i);
        }
        due("2: full", x.type(32), FULL);
        due("2: BAD comes ahead of FULL", x.type(256), BAD);
        due("2: still 120", x.count(7), 120);
    }

    private static void promise3Clear() {
        StrikePasses x = new StrikePasses();
        due("3: clear() of none", x.clear(), 0);
        x.type('l');
        x.type(';');
        due("3: clear()", x.clear(), 2);
        due("3: clear() again", x.clear(), 0);
        due("3: page() has nothing", x.page(), 0);
        due("3: no lines", x.count(0), 0);
    }

    private static void promise4PageTells() {
        StrikePasses x = told("g 3;r 4;n 72;d f 0 255 7;l f.a;l;");
        due("4: empty then", x.count(7), 0);
        due("4: stagger", x.count(3), 3);
        due("4: rest", x.count(4), 4);
        due("4: feed", x.count(5), 72);
        due("4: letter f", x.letter(5, 1), 255);
        due("4: lines", x.count(0), 2);
        due("4: blank", x.line(0, 1), 6);
        due("4: empty line", x.line(1, -1), 0);
        due("4: items", tell(x, "  l d d ; d d 1 2 3 ; d d 4 5 6 ;g0;g4;  "), 5);
        due("4: told last", x.letter(3, 0), 4);
        due("4: told last", x.count(3), 4);
        due("4: else as at first", x.count(4), 1);
        due("4: else as at first", x.count(5), 12);
        due("4: else as at first", x.letter(5, 1), 0);
        due("4: d is a letter else", x.line(0, 1), 3);
        due("4: anew", x.count(0), 1);
        due("4: blanks alone", tell(x, "   "), 0);
        due("4: all as at first", x.count(0) + x.letter(3, 0), 0);
        due("4: as many items as the text can hold", tell(x, "g0;g1;g2;g3;g4;g0;g1;g2;g3;g4;g0;g1;g2;g3;g4;g0;g1;g2;g3;g4;"
            + "g0;g1;g2;g3;g4;g0;g1;g2;g3;g4;g0;g1;g2;g3;g4;g0;g1;g2;g3;g1;"), 40);
        due("4: the last of them", x.count(3), 1);
    }

    private static void promise4PageForgets() {
        StrikePasses x = told("da1 1 1;la;");
        x.sets(1, 5);
        x.sees(0, 3);
        x.keep(0);
        x.keep(1);
        due("4: a fault", tell(x, "l"), -11);
        due("4: rest stays", x.count(4), 5);
        due("4: undo stays", x.count(8), 1);
        due("4: seen stays", x.count(6), 1);
        due("4: image stays", x.back(1), 1);
        x.clear();
        due("4: read anew", tell(x, "l;"), 1);
        due("4: nothing can be undone", x.undo(), STATE);
        due("4: nothing seen", x.count(6), 0);
        due("4: images are gone", x.back(0), STATE);
        due("4: images are gone", x.back(1), STATE);
    }

    private static void promise4Faults() {
        fault("g5;", 1);
        fault("r10;", 1);
        fault("n0;", 1);
        fault("n73;", 1);
        fault("da256 0 0;", 2);
        fault("da0 0 256;", 6);
        fault("g  1000;", 3);
        fault("g 01;", 2);
        fault("g 00;", 2);
        fault("g 99999999999999999999;", 2);
        fault("r4294967296;", 1);
        fault("g", 1);
        fault("g  ", 3);
        fault("g 1", 3);
        fault("g 1 1;", 4);
        fault(";", 0);
        fault("l;;", 2);
        fault("g;", 1);
        fault("dg1 1 1;", 1);
        fault("d1 1 1;", 1);
        fault("da1 1;", 5);
        fault("da1 1 1 1;", 8);
        fault("da1 1 1", 7);
        fault("laaaaaaaaa;", 9);
        fault("l........ .", 10);
        fault("lg;", 1);
        fault("lr;", 1);
        fault("ll;", 1);
        fault("ln;", 1);
        fault("l1;", 1);
        fault("la", 2);
        fault("l;l;l;l; l;", 9);
        fault("a;", 0);
        fault(".;", 0);
        fault("7;", 0);
        fault("l" + (char) 9 + ";", 1);
        fault("" + (char) 0, 0);
        fault("l" + (char) 255, 1);
        fault("L;", 0);
        fault("g1;gg1000 y", 4);
        fault("la`;", 2);
        fault("l/;", 1);
    }

    private static void promise5Letter() {
        StrikePasses x = told("da1 2 3;df4 5 255;");
        for (int column = 0; column < 3; column++) {
            due("5: a", x.letter(0, column), column + 1);
        }
        due("5: f", x.letter(5, 0), 4);
        due("5: f", x.letter(5, 2), 255);
        due("5: b", x.letter(1, 0), 0);
        int[][] bad = {{-1, 0}, {6, 0}, {0, -1}, {0, 3}, {LOW, 0}, {HIGH, 0}, {5, HIGH}, {5, LOW}};
        for (int[] b : bad) {
            due("5: letter(" + b[0] + ", " + b[1] + ")", x.letter(b[0], b[1]), BAD);
        }
    }

    private static void promise6Line() {
        StrikePasses x = told("labcdef.a;l;");
        due("6: how many", x.line(0, -1), 8);
        for (int k = 0; k < 7; k++) {
            due("6: the k-th", x.line(0, k), k);
        }
        due("6: the last", x.line(0, 7), 0);
        due("6: none", x.line(1, -1), 0);
        int[][] bad = {{0, 8}, {0, -2}, {1, 0}, {2, -1}, {-1, -1}, {LOW, 0}, {HIGH, 0}, {0, HIGH}, {0, LOW}};
        for (int[] b : bad) {
            due("6: line(" + b[0] + ", " + b[1] + ")", x.line(b[0], b[1]), BAD);
        }
    }

    private static void promise7Dots() {
        StrikePasses x = told("da1 2 3;dc7 8 9;lca.;lc;");
        int[] columns = {7, 8, 9, 1, 2, 3, 0, 0, 0, 0};
        for (int c = 0; c < columns.length; c++) {
            due("7: dots", x.dots(0, c), columns[c]);
        }
        due("7: second line", x.dots(1, 2), 9);
        due("7: beyond its signs", x.dots(1, 3), 0);
        due("7: the last column", x.dots(1, 23), 0);
        int[][] bad = {{0, 24}, {0, -1}, {2, 0}, {-1, 0}, {HIGH, 0}, {LOW, 0}, {0, HIGH}, {0, LOW}};
        for (int[] b : bad) {
            due("7: dots(" + b[0] + ", " + b[1] + ")", x.dots(b[0], b[1]), BAD);
        }
    }

    private static void promise8Draws() {
        StrikePasses x = told("db5 6 7;lb;");
        due("8: draws", x.draws(1, 1, 255), 6);
        due("8: drawn", x.letter(1, 1), 255);
        due("8: in the line", x.dots(0, 1), 255);
        due("8: it is that", x.draws(1, 1, 255), STATE);
        due("8: to none", x.draws(1, 1, 0), 255);
        int[][] bad = {{-1, 0, 1}, {6, 0, 1}, {0, -1, 1}, {0, 3, 1}, {0, 0, -1}, {0, 0, 256}, {0, 0, LOW}, {HIGH, HIGH, HIGH}};
        for (int[] b : bad) {
            due("8: BAD", x.draws(b[0], b[1], b[2]), BAD);
        }
        due("8: refused ones are not known", x.count(8), 2);
    }

    private static void promise9Types() {
        StrikePasses x = new StrikePasses();
        for (int l = 0; l < 4; l++) {
            due("9: no line beyond the next", x.types(l + 1, 0), BAD);
            due("9: a new line", x.types(l, l), 1);
        }
        due("9: four lines", x.types(4, 0), FULL);
        due("9: BAD comes ahead of FULL", x.types(4, 7), BAD);
        due("9: no such line", x.types(5, 0), BAD);
        for (int n = 2; n <= 8; n++) {
            due("9: a sign", x.types(3, 6), n);
        }
        due("9: eight signs", x.types(3, 6), FULL);
        due("9: eight signs", x.types(3, -1), BAD);
        due("9: the first stays", x.line(3, 0), 3);
        due("9: the last", x.line(3, 7), 6);
        int[][] bad = {{-1, 0}, {0, -1}, {0, 7}, {LOW, 0}, {HIGH, 0}, {0, LOW}, {0, HIGH}};
        for (int[] b : bad) {
            due("9: BAD", x.types(b[0], b[1]), BAD);
        }
        due("9: four lines still", x.count(0), 4);
    }

    private static void promise10Strikes() {
        StrikePasses x = told("lab.;");
        due("10: a blank", x.strikes(0), 6);
        due("10: b", x.strikes(0), 1);
        due("10: a", x.strikes(0), 0);
        due("10: empty", x.strikes(0), STATE);
        due("10: the line stays", x.count(0), 1);
        due("10: and may be typed", x.types(0, 4), 1);
        due("10: no line", x.strikes(1), BAD);
        due("10: no line", x.strikes(-1), BAD);
        due("10: no line", x.strikes(HIGH), BAD);
        due("10: no line", x.strikes(LOW), BAD);
    }

    private static void promise11Sets() {
        StrikePasses x = new StrikePasses();
        int[] first = {2, 1, 12};
        int[] least = {0, 0, 1};
        int[] greatest = {4, 9, 72};
        for (int what = 0; what < 3; what++) {
            due("11: it is that", x.sets(what, first[what]), STATE);
            due("11: below", x.sets(what, least[what] - 1), BAD);
            due("11: above", x.sets(what, greatest[what] + 1), BAD);
            due("11: least", x.sets(what, least[what]), first[what]);
            due("11: greatest", x.sets(what, greatest[what]), least[what]);
            due("11: as set", x.count(3 + what), greatest[what]);
        }
        due("11: no such", x.sets(3, 1), BAD);
        due("11: no such", x.sets(-1, 1), BAD);
        due("11: no such", x.sets(HIGH, 1), BAD);
        due("11: no such", x.sets(LOW, 1), BAD);
        due("11: no such", x.sets(0, LOW), BAD);
    }

    private static void promise12Undo() {
        StrikePasses x = told("da1 2 3;lab;");
        x.draws(0, 2, 77);
        x.types(0, 5);
        x.types(1, 4);
        x.types(1, 3);
        x.strikes(0);
        x.sets(2, 30);
        x.sets(2, 99);
        x.draws(0, 2, 77);
        due("12: six may be", x.count(8), 6);
        due("12: sets", x.undo(), 5);
        due("12: sets", x.count(5), 12);
        due("12: strikes", x.undo(), 4);
        due("12: strikes", x.line(0, 2), 5);
        due("12: types", x.undo(), 3);
        due("12: types", x.line(1, -1), 1);
        due("12: a new line goes", x.undo(), 2);
        due("12: a new line goes", x.count(0), 1);
        due("12: types", x.undo(), 1);
        due("12: types", x.line(0, -1), 2);
        due("12: draws", x.undo(), 0);
        due("12: draws", x.letter(0, 2), 3);
        due("12: none", x.undo(), STATE);
    }

    private static void promise12UndoKnowsTen() {
        StrikePasses x = told("l;");
        for (int i = 0; i < 13; i++) {
            x.sets(2, 20 + i);
        }
        due("12: ten", x.count(8), 10);
        for (int i = 9; i >= 0; i--) {
            due("12: undo", x.undo(), i);
        }
        due("12: older ones are lost", x.undo(), STATE);
        due("12: as after the third", x.count(5), 22);
        for (int i = 0; i < 3; i++) {
            x.draws(5, 2, 200 + i);
            x.types(1, 5);
            x.strikes(1);
            x.sets(0, i == 1 ? 2 : 4);
        }
        due("12: ten of twelve", x.count(8), 10);
        for (int i = 9; i >= 0; i--) {
            due("12: undo of each kind", x.undo(), i);
        }
        due("12: as after the second", x.line(1, 0), 5);
        due("12: as after the second", x.letter(5, 2), 200);
        due("12: as after the second", x.count(3), 2);
        x.types(0, 2);
        due("12: one", x.undo(), 0);
        due("12: an empty line stays", x.line(0, -1), 0);
    }

    private static void promise13Passes() {
        StrikePasses x = told("da1 1 1;db2 0 2;r0;la;lab;l.;l;");
        int[] byRest0 = {1, 1, 0, 0};
        int[] byRest1 = {2, 2, 0, 0};
        int[] byRest9 = {3, 3, 0, 0};
        for (int l = 0; l < 4; l++) {
            due("13: rest 0", x.passes(l), byRest0[l]);
        }
        x.sets(1, 1);
        for (int l = 0; l < 4; l++) {
            due("13: rest 1", x.passes(l), byRest1[l]);
        }
        due("13: all", x.count(2), 4);
        x.sets(1, 9);
        for (int l = 0; l < 4; l++) {
            due("13: rest 9", x.passes(l), byRest9[l]);
        }
        due("13: no line", x.passes(4), BAD);
        due("13: no line", x.passes(-1), BAD);
        due("13: no line", x.passes(HIGH), BAD);
        due("13: no line", x.passes(LOW), BAD);
        StrikePasses full = told("r9;da255 255 255;laaaaaaaa;");
        due("13: ten at most", full.passes(0), 10);
    }

    private static void promise14Pass() {
        // needle 0 at columns 0 1 3 4 6: by rest 2 passes 0 1 0 1 0; needle 7 at 2 and 5
        StrikePasses x = told("r2;da1 1 128;db1 1 128;dc1 0 0;labc;");
        int[] first = {0, 1, NONE, 0, 1, NONE, 0, NONE, NONE, NONE};
        for (int c = 0; c < first.length; c++) {
            due("14: needle 0, column " + c, x.pass(0, 0, c), first[c]);
        }
        due("14: needle 7", x.pass(0, 7, 2), 0);
        due("14: three apart, by rest 2", x.pass(0, 7, 5), 0);
        x.sets(1, 3);
        int[] then = {0, 1, NONE, 2, 0, NONE, 1, NONE};
        for (int c = 0; c < then.length; c++) {
            due("14: by rest 3, column " + c, x.pass(0, 0, c), then[c]);
        }
        due("14: three apart, by rest 3", x.pass(0, 7, 5), 1);
        due("14: no dot", x.pass(0, 3, 0), NONE);
        due("14: beyond its signs", x.pass(0, 0, 23), NONE);
        int[][] bad = {{1, 0, 0}, {-1, 0, 0}, {0, -1, 0}, {0, 8, 0}, {0, 0, -1}, {0, 0, 24}, {HIGH, 0, 0}, {0, LOW, 0}, {0, 0, HIGH}};
        for (int[] b : bad) {
            due("14: BAD", x.pass(b[0], b[1], b[2]), BAD);
        }
    }

    private static void promise15Span() {
        // even needle at column 3, odd needle at columns 1 and 2
        StrikePasses x = told("g4;da0 2 2;db1 0 0;lab;l.;");
        due("15: least", x.span(0, 0, 0), -3);
        due("15: greatest", x.span(0, 0, 1), 3);
        due("15: second pass", x.span(0, 1, 0), -2);
        due("15: second pass", x.span(0, 1, 1), -2);
        x.sets(0, 0);
        due("15: no stagger", x.span(0, 0, 0), 1);
        due("15: no stagger", x.span(0, 1, 1), 2);
        int[][] none = {{0, 2, 0}, {0, -1, 0}, {0, 0, 2}, {0, 0, -1}, {1, 0, 0}, {2, 0, 0}, {-1, 0, 0},
            {HIGH, 0, 0}, {0, HIGH, 0}, {0, LOW, 1}, {0, 0, HIGH}};
        for (int[] b : none) {
            due("15: NO", x.span(b[0], b[1], b[2]), NO);
        }
    }

    private static void promise16Goes() {
        // each line one pass from 0 to 8: there and back
        StrikePasses x = told("da1 0 0;db0 0 1;la.b;la.b;l;la.b;");
        due("16: there", x.goes(0, 0), 0);
        due("16: back", x.goes(1, 0), 1);
        due("16: there", x.goes(3, 0), 0);
        due("16: no such pass", x.goes(0, 1), NONE);
        due("16: no such pass", x.goes(2, 0), NONE);
        due("16: no such pass", x.goes(0, HIGH), NONE);
        due("16: below 0", x.goes(0, -1), BAD);
        due("16: below 0", x.goes(0, LOW), BAD);
        due("16: no line", x.goes(4, 0), BAD);
        due("16: no line", x.goes(-1, 0), BAD);
        due("16: no line", x.goes(HIGH, HIGH), BAD);
        // spans 3 to 5, then 3 to 3: right to left costs 5 and 0, left to right costs 3 and 2; the first of both
        StrikePasses y = told("db1 0 1;dc1 0 0;l.b;l.c;");
        due("16: of several the first", y.goes(0, 0), 0);
        due("16: a span of one column", y.goes(1, 0), 0);
        // spans 2 to 8, then 0 to 0: the nearer end first would cost 2 and 8, the farther 8 and 2, alike
        StrikePasses z = told("da0 0 1;db1 0 0;la.a;lb;");
        due("16: alike", z.goes(0, 0), 0);
        // spans 1 to 8, then 0 to 0, then 8 to 8: 1 8 8 or 8 1 8, the first
        due("16: three", tell(z, "da0 1 0;db1 0 0;dc0 0 1;la.c;lb;l..c;"), 6);
        due("16: three", z.goes(0, 0), 0);
    }

    private static void promise16GoesInTheWhole() {
        // spans by an odd needle -4 to 4 (column 0 and 8), then -4: the nearer end of the first is a tie
        StrikePasses x = told("g4;da2 0 0;db0 0 2;la.b;la;");
        due("16: least", x.span(0, 0, 0), -4);
        due("16: greatest", x.span(0, 0, 1), 4);
        due("16: right to left, to end near the next", x.goes(0, 0), 1);
        due("16: then", x.goes(1, 0), 0);
        due("16: seeks", x.way(0), 4);
        due("16: end", x.way(2), -4);
        // spans -3 to 4, then -3: the nearer end first would cost 3 and 7
        StrikePasses y = told("g4;da0 2 0;db0 1 0;lab;la;");
        due("16: the farther end first", y.goes(0, 0), 1);
        due("16: seeks", y.way(0), 4);
        // spans 0 to 2, 0 to 2, 0 to 8: no seeks at all
        StrikePasses z = told("da1 0 1;db0 0 1;la;la;la.b;");
        int[] turns = {0, 1, 0};
        for (int l = 0; l < 3; l++) {
            due("16: to and fro", z.goes(l, 0), turns[l]);
        }
        due("16: no seeks", z.way(0), 0);
        due("16: time", z.way(1), 12);
        due("16: end", z.way(2), 8);
    }

    private static void promise16GoesPassByPass() {
        // one needle at 0 1 2: by rest 1 pass 0 from 0 to 2, pass 1 at 1; again on the next line
        StrikePasses x = told("da1 1 1;la;la;");
        due("16: first pass", x.goes(0, 0), 0);
        due("16: second pass", x.goes(0, 1), 0);
        due("16: next line, 1 away from both ends", x.goes(1, 0), 0);
        due("16: its second pass", x.goes(1, 1), 0);
        due("16: seeks", x.way(0), 3);
        due("16: time", x.way(1), 7);
        due("16: end", x.way(2), 1);
    }

    private static void promise17Stands() {
        StrikePasses x = told("g3;da3 0 192;la;");
        due("17: even", x.stands(0, 0, 0), 0);
        due("17: odd", x.stands(0, 1, 0), -3);
        due("17: even", x.stands(0, 6, 2), 2);
        due("17: odd", x.stands(0, 7, 2), -1);
        StrikePasses y = told("g4;da0 255 0;l.a;");
        for (int k = 0; k < 8; k++) {
            due("17: needle " + k, y.stands(0, k, 4), k % 2 == 0 ? 4 : 0);
        }
        int[][] none = {{0, 0, 1}, {0, 2, 0}, {0, 0, 23}, {0, 0, 24}, {0, 0, -1}, {0, 8, 0}, {0, -1, 0}, {1, 0, 0}, {-1, 0, 0},
            {HIGH, 0, 0}, {0, HIGH, 0}, {0, 32, 0}, {0, 0, LOW}};
        for (int[] b : none) {
            due("17: NO", x.stands(b[0], b[1], b[2]), NO);
        }
    }

    private static void promise18Way() {
        StrikePasses x = told("da0 1 0;db0 0 1;la.b;l..a;l;");
        // 1 to 8, then 7: seeks 1 and 1, length 7
        due("18: seeks", x.way(0), 2);
        due("18: time", x.way(1), 9);
        due("18: end", x.way(2), 7);
        due("18: NO", x.way(3), NO);
        due("18: NO", x.way(-1), NO);
        due("18: NO", x.way(HIGH), NO);
        due("18: NO", x.way(LOW), NO);
        StrikePasses none = told("l;l.;");
        due("18: no passes", none.way(0) + none.way(1) + none.way(2), 0);
    }

    private static void promise19Wear() {
        StrikePasses x = told("da1 129 255;laa;l.a;");
        int[] wear = {9, 3, 3, 3, 3, 3, 3, 6};
        for (int k = 0; k < 8; k++) {
            due("19: wear(" + k + ")", x.wear(k), wear[k]);
        }
        due("19: all", x.count(1), 33);
        x.strikes(0);
        due("19: now", x.wear(0), 6);
        due("19: no needle", x.wear(8), BAD);
        due("19: no needle", x.wear(-1), BAD);
        due("19: no needle", x.wear(HIGH), BAD);
        due("19: no needle", x.wear(LOW), BAD);
    }

    private static void promise20Crowd() {
        // needle 1 at 4, 5, needle 2 at 7, 8
        StrikePasses x = told("db0 2 2;dc0 4 4;l.bc;l.;");
        due("20: most", x.crowd(0, 0), 2);
        due("20: lowest needle", x.crowd(0, 1), 1);
        due("20: first column", x.crowd(0, 2), 4);
        x.sets(1, 2);
        due("20: wider", x.crowd(0, 2), 3);
        x.sets(1, 0);
        due("20: one column", x.crowd(0, 0), 1);
        due("20: one column", x.crowd(0, 2), 4);
        x.sets(1, 9);
        due("20: from the left end", x.crowd(0, 2), 0);
        x.types(0, 1);
        due("20: four within ten", x.crowd(0, 0), 4);
        due("20: four within ten", x.crowd(0, 2), 2);
        due("20: no dots", x.crowd(1, 0), 0);
        due("20: no dots", x.crowd(1, 1), NONE);
        due("20: no dots", x.crowd(1, 2), NONE);
        int[][] bad = {{2, 0}, {-1, 0}, {0, 3}, {0, -1}, {HIGH, 0}, {LOW, 0}, {0, HIGH}, {1, LOW}};
        for (int[] b : bad) {
            due("20: BAD", x.crowd(b[0], b[1]), BAD);
        }
        StrikePasses y = told("r9;da255 255 255;laaaaaaaa;l.......a;");
        due("20: full", y.crowd(0, 0), 10);
        due("20: full", y.crowd(0, 1), 0);
        due("20: full", y.crowd(0, 2), 0);
        due("20: at the right end", y.crowd(1, 2), 14);
    }

    private static void promise21Easy() {
        StrikePasses x = told("r9;da1 0 0;db1 1 0;la..a;laa;lab;la...a;");
        due("21: nine apart", x.easy(0), 8);
        due("21: three apart", x.easy(1), 2);
        due("21: side by side", x.easy(2), 0);
        due("21: twelve apart", x.easy(3), 9);
        due("21: no line", x.easy(4), BAD);
        due("21: no line", x.easy(-1), BAD);
        due("21: no line", x.easy(HIGH), BAD);
        due("21: no line", x.easy(LOW), BAD);
        StrikePasses y = told("da1 2 4;l;la;l.;");
        for (int l = 0; l < 3; l++) {
            due("21: no two", y.easy(l), 9);
        }
    }

    private static void place(int feed, int l, int whole, int upper, int lower) {
        StrikePasses x = told("n" + feed + ";l;l;l;l;");
        due("22: whole of " + feed + " by " + l, x.place(l, 0), whole);
        due("22: upper of " + feed + " by " + l, x.place(l, 1), upper);
        due("22: lower of " + feed + " by " + l, x.place(l, 2), lower);
    }

    private static void promise22Place() {
        place(12, 0, 0, 0, 1);
        place(12, 1, 0, 1, 6);
        place(30, 3, 1, 1, 4);
        place(72, 3, 3, 0, 1);
        place(1, 1, 0, 1, 72);
        place(71, 3, 2, 23, 24);
        place(36, 2, 1, 0, 1);
        place(5, 2, 0, 5, 36);
        StrikePasses x = told("l;");
        int[][] bad = {{1, 0}, {-1, 0}, {0, 3}, {0, -1}, {HIGH, 0}, {LOW, 0}, {0, HIGH}, {0, LOW}};
        for (int[] b : bad) {
            due("22: BAD", x.place(b[0], b[1]), BAD);
        }
    }

    private static void promise23Sees() {
        StrikePasses x = told("la;");
        due("23: BAD", x.sees(1, 0), BAD);
        due("23: BAD", x.sees(-1, 0), BAD);
        due("23: BAD", x.sees(0, -1), BAD);
        due("23: BAD", x.sees(0, 193), BAD);
        due("23: BAD", x.sees(HIGH, LOW), BAD);
        due("23: one", x.sees(0, 0), 1);
        for (int n = 2; n <= 6; n++) {
            due("23: more", x.sees(0, 192), n);
        }
        due("23: six", x.sees(0, 0), FULL);
        due("23: BAD comes ahead of FULL", x.sees(0, 193), BAD);
        due("23: six", x.count(6), 6);
        due("23: cannot be undone", x.undo(), STATE);
    }

    private static void promise24Forget() {
        StrikePasses x = told("la;");
        due("24: none", x.forget(), 0);
        x.sees(0, 1);
        x.sees(0, 2);
        due("24: never so", x.unseen(), 0);
        due("24: two", x.forget(), 2);
        due("24: none again", x.forget(), 0);
        due("24: any", x.unseen(), 255);
    }

    private static void promise25Unseen() {
        // line 0: needle 0 has three dots, needle 1 two, needle 7 one; line 1: needle 7 two
        StrikePasses x = told("da3 3 129;db128 128 0;la;lb;");
        due("25: nothing seen", x.unseen(), 255);
        x.sees(0, 6);
        due("25: needles without dots", x.unseen(), 0b01111100);
        x.forget();
        x.sees(0, 5);
        due("25: one dot", x.unseen(), 0b10000000);
        x.sees(1, 2);
        due("25: both are never so", x.unseen(), 0);
        x.forget();
        x.sees(1, 2);
        due("25: any but 7", x.unseen(), 0b01111111);
        x.sees(0, 3);
        due("25: needle 0", x.unseen(), 1);
        x.draws(0, 1, 2);
        due("25: as things are now, two dots each", x.unseen(), 0b11);
        x.undo();
        due("25: and again", x.unseen(), 1);
        x.types(2, 0);
        x.forget();
        x.sees(2, 6);
        due("25: the new line", x.unseen(), 0b01111100);
        x.undo();
        due("25: where it is none any more", x.unseen(), 0);
        x.types(2, 0);
        due("25: where it is one again", x.unseen(), 0b01111100);
    }

    private static void promise26Ask() {
        StrikePasses none = new StrikePasses();
        due("26: no lines", none.ask(), NONE);
        StrikePasses x = told("da3 3 129;db128 128 0;lb;la;la;l;");
        due("26: the most unlike, the first", x.ask(), 1);
        x.sees(1, 6);
        due("26: these tell alike everywhere", x.ask(), 0);
        x.forget();
        x.sees(1, 5);
        due("26: one can be", x.ask(), NONE);
        x.sees(1, 6);
        due("26: none can be", x.ask(), NONE);
        StrikePasses y = told("l;l.;");
        due("26: no dots", y.ask(), 0);
        // line 0: needles 0 and 1 have a dot each, so by 1 they are two; line 1 tells them apart
        StrikePasses z = told("da3 0 0;db1 0 0;la;lb;");
        z.sees(0, 1);
        due("26: two can be", z.unseen(), 0b11);
        due("26: two can be", z.ask(), 1);
    }

    private static void promise27Keep() {
        StrikePasses x = new StrikePasses();
        due("27: no lines", x.keep(0), 0);
        x.types(0, 1);
        x.types(1, 1);
        due("27: two lines", x.keep(1), 2);
        due("27: BAD", x.keep(2), BAD);
        due("27: BAD", x.keep(-1), BAD);
        due("27: BAD", x.keep(HIGH), BAD);
        due("27: BAD", x.keep(LOW), BAD);
        due("27: undone still", x.count(8), 2);
        due("27: the first", x.back(0), 0);
        due("27: kept anew", x.keep(1), 0);
        due("27: kept anew", x.back(1), 0);
    }

    private static void promise28Back() {
        StrikePasses x = told("g3;r4;n5;da1 2 3;lab;l.;");
        x.sees(1, 0);
        due("28: BAD", x.back(2), BAD);
        due("28: BAD", x.back(-1), BAD);
        due("28: BAD", x.back(HIGH), BAD);
        due("28: none was kept", x.back(1), STATE);
        x.keep(1);
        due("28: the other was not kept", x.back(0), STATE);
        x.sets(0, 0);
        x.sets(1, 0);
        x.sets(2, 1);
        x.draws(0, 0, 99);
        x.strikes(0);
        x.types(1, 3);
        x.types(2, 3);
        x.sees(2, 0);
        x.type('l');
        due("28: back", x.back(1), 2);
        due("28: stagger", x.count(3), 3);
        due("28: rest", x.count(4), 4);
        due("28: feed", x.count(5), 5);
        due("28: letter", x.letter(0, 0), 1);
        due("28: line", x.line(0, -1), 2);
        due("28: line", x.line(0, 1), 1);
        due("28: line", x.line(1, -1), 1);
        due("28: nothing can be undone", x.undo(), STATE);
        due("28: seen is not kept", x.count(6), 2);
        due("28: a line that is none any more", x.unseen(), 0);
        due("28: the text stays", x.count(7), 1);
        x.types(0, 0);
        due("28: once more", x.back(1), 2);
        due("28: the image stays as kept", x.line(0, -1), 2);
    }

    private static void promise29Count() {
        StrikePasses x = told("g1;r2;n3;da7 0 1;laa;l;");
        x.sees(0, 1);
        x.type(' ');
        x.type(' ');
        x.types(1, 0);
        // needle 0 of line 0 at 0 2 3 5: passes 0 1 0 1; of line 1 at 0 2: passes 0 1
        int[] counts = {2, 12, 4, 1, 2, 3, 1, 2, 1};
        for (int i = 0; i < counts.length; i++) {
            due("29: count(" + i + ")", x.count(i), counts[i]);
        }
        due("29: BAD", x.count(9), BAD);
        due("29: BAD", x.count(-1), BAD);
        due("29: BAD", x.count(HIGH), BAD);
        due("29: BAD", x.count(LOW), BAD);
    }

    public static void main(String[] args) {
        promise1ANewObject();
        promise2Type();
        promise3Clear();
        promise4PageTells();
        promise4PageForgets();
        promise4Faults();
        promise5Letter();
        promise6Line();
        promise7Dots();
        promise8Draws();
        promise9Types();
        promise10Strikes();
        promise11Sets();
        promise12Undo();
        promise12UndoKnowsTen();
        promise13Passes();
        promise14Pass();
        promise15Span();
        promise16Goes();
        promise16GoesInTheWhole();
        promise16GoesPassByPass();
        promise17Stands();
        promise18Way();
        promise19Wear();
        promise20Crowd();
        promise21Easy();
        promise22Place();
        promise23Sees();
        promise24Forget();
        promise25Unseen();
        promise26Ask();
        promise27Keep();
        promise28Back();
        promise29Count();
        System.out.println(checks - wrong + " answers as due, " + wrong + " not");
        if (wrong != 0) {
            System.exit(1);
        }
    }
}
