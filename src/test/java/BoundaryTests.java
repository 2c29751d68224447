import java.io.IOException;
import java.nio.file.Files;
import java.nio.file.Path;
import java.util.ArrayList;
import java.util.Arrays;
import java.util.List;
import java.util.Set;
import java.util.TreeSet;

/**
 * Each sentence of the document that names a boundary case, with a test of its own. A sentence is quoted word by
 * word together with the promise it stands in (0: ahead of the promises), and the quote is looked up in the document.
 */
public final class BoundaryTests {
    private static final int BAD = -1, STATE = -2, FULL = -3, NONE = -9, NO = -1000000;
    private static final int PROMISES = 29;
    private static final Path DOCUMENT = Path.of("../shared/DOC.md");
    /** Beside the ends of int, numbers that times 3, 8, 10 or as a shift's count wrap around to a small one. */
    private static final int[] FAR = {Integer.MIN_VALUE, Integer.MIN_VALUE + 1, -1000000, -256, -64, -32, -10, -9, -3, -2, -1, 32, 64, 256, 257,
        65536, 65536 + 97, 0x20000000, 0x20000001, 0x40000000, 0x55555556, 0x66666667, -0x20000000, -0x55555555,
        Integer.MAX_VALUE - 1, Integer.MAX_VALUE};

    private interface Check {
        void run();
    }

    private interface Call {
        int on(StrikePasses x);
    }

    private static final String[] sections = new String[PROMISES + 1];
    private static final Set<Integer> tested = new TreeSet<>();
    private static String current = "";
    private static int sentences = 0;
    private static int checks = 0;
    private static int wrong = 0;

    private static void readDocument() throws IOException {
        String[] parts = plain(Files.readString(DOCUMENT)).split("## Promise ");
        for (int i = 0; i < sections.length; i++) {
            sections[i] = i < parts.length ? parts[i] : "";
        }
    }

    private static String plain(String text) {
        return text.replaceAll("\\s+", " ");
    }

    private static void fail(String what) {
        wrong++;
        if (wrong <= 40) {
            System.out.println(current + ": " + what);
        }
    }

    private static void due(String call, int got, int want) {
        checks++;
        if (got != want) {
            fail(call + " answered " + got + ", due is " + want);
        }
    }

    private static void sentence(int promise, String quote, Check check) {
        current = promise + " \"" + quote + "\"";
        tested.add(promise);
        sentences++;
        if (!sections[promise].contains(plain(quote))) {
            fail("the document does not say so there");
        }
        int before = checks;
        check.run();
        if (checks == before) {
            fail("nothing was tested");
        }
    }

    // ---- objects for the tests

    private static int tell(StrikePasses x, String text) {
        for (int i = 0; i < text.length(); i++) {
            x.type(text.charAt(i));
        }
        return x.page();
    }

    private static StrikePasses told(String text) {
        StrikePasses x = new StrikePasses();
        if (tell(x, text) < 0) {
            fail("\"" + text + "\" was refused");
        }
        return x;
    }

    private static void items(String text, int items) {
        due("page() of \"" + text + "\"", tell(new StrikePasses(), text), items);
    }

    private static void fault(String text, int place) {
        StrikePasses x = new StrikePasses();
        due("page() of \"" + text + "\"", tell(x, text), -10 - place);
        due("the text stays", x.count(7), text.length());
    }

    /** Lines by their columns: at most six unlike signs, or one could not draw them. */
    private static StrikePasses drawn(int stagger, int rest, int[]... lines) {
        StrikePasses x = new StrikePasses();
        x.sets(0, stagger);
        x.sets(1, rest);
        List<String> letters = new ArrayList<>();
        for (int l = 0; l < lines.length; l++) {
            int[] columns = Arrays.copyOf(lines[l], (lines[l].length + 2) / 3 * 3);
            for (int k = 0; k < columns.length / 3; k++) {
                int[] shape = Arrays.copyOfRange(columns, 3 * k, 3 * k + 3);
                x.types(l, signOf(x, letters, shape));
            }
        }
        return x;
    }

    private static int signOf(StrikePasses x, List<String> letters, int[] shape) {
        String name = Arrays.toString(shape);
        if (name.equals("[0, 0, 0]")) {
            return 6;
        }
        if (!letters.contains(name)) {
            letters.add(name);
            for (int c = 0; c < 3; c++) {
                x.draws(letters.size() - 1, c, shape[c]);
            }
        }
        return letters.indexOf(name);
    }

    private static int[] dots(int needle, int... columns) {
        int[] all = new int[24];
        for (int c : columns) {
            all[c] |= 1 << needle;
        }
        return all;
    }

    /** Numbers that are not from low to high. */
    private static int[] outside(int low, int high) {
        List<Integer> numbers = new ArrayList<>(List.of(low - 1, high + 1));
        for (int n : FAR) {
            if (n < low || n > high) {
                numbers.add(n);
            }
        }
        return numbers.stream().mapToInt(Integer::intValue).toArray();
    }

    // ---- ahead of the promises

    private static void needles() {
        sentence(0, "An object is used for at most 512 calls after it has been made", () -> {
            StrikePasses x = new StrikePasses();
            for (int i = 1; i <= 510; i++) {
                due("call " + i, x.sets(2, 1 + i % 72), i == 1 ? 12 : 1 + (i - 1) % 72);
            }
            due("call 511", x.undo(), 9);
            due("call 512", x.count(5), 1 + 509 % 72);
        });
        sentence(0, "7: even ones stand in the first column, odd ones in the second, STAGGER", () -> {
            for (int stagger = 0; stagger <= 4; stagger++) {
                StrikePasses x = told("da255 255 255;laaaaaaaa;g" + stagger + ";");
                for (int k = 0; k < 8; k++) {
                    due("needle " + k, x.stands(0, k, 0), k % 2 == 0 ? 0 : -stagger);
                    due("needle " + k, x.stands(0, k, 23), k % 2 == 0 ? 23 : 23 - stagger);
                }
                due("needle 8", x.stands(0, 8, 0), NO);
            }
        });
        sentence(0, "STAGGER (0 .. 4; 2 at first)", () -> setting("g", 0, 0, 4, 2));
        sentence(0, "REST (0 .. 9; 1 at first)", () -> setting("r", 1, 0, 9, 1));
        sentence(0, "FEED (1 .. 72; 12 at first)", () -> setting("n", 2, 1, 72, 12));
    }

    private static void setting(String head, int what, int least, int greatest, int first) {
        StrikePasses x = new StrikePasses();
        due("at first", x.count(3 + what), first);
        due("one too small", x.sets(what, least - 1), BAD);
        due("one too large", x.sets(what, greatest + 1), BAD);
        due("as at first", x.count(3 + what), first);
        due("the least", x.sets(what, least), first);
        due("the greatest", x.sets(what, greatest), least);
        due("then", x.count(3 + what), greatest);
        for (int v = 0; v <= 99; v++) {
            StrikePasses y = new StrikePasses();
            boolean fits = v >= least && v <= greatest;
            due("page() of " + head + v + ";", tell(y, head + v + ";"), fits ? 1 : -11);
            due("then", y.count(3 + what), fits ? v : first);
        }
    }

    private static void letters() {
        sentence(0, "LETTERS a .. f, each three columns of dots (0 .. 255 each", () -> {
            for (char x = 'a'; x <= 'f'; x++) {
                StrikePasses y = told("d" + x + "0 255 254;");
                due("least", y.letter(x - 'a', 0), 0);
                due("greatest", y.letter(x - 'a', 1), 255);
                due("third", y.letter(x - 'a', 2), 254);
            }
            fault("dg1 1 1;", 1);
            fault("d`1 1 1;", 1);
            fault("da256 1 1;", 2);
            fault("da1 256 1;", 4);
            fault("da1 1 256;", 6);
        });
        sentence(0, "bit k for NEEDLE k", () -> {
            for (int k = 0; k < 8; k++) {
                StrikePasses x = drawn(2, 1, dots(k, 0));
                for (int other = 0; other < 8; other++) {
                    due("pass(0, " + other + ", 0)", x.pass(0, other, 0), other == k ? 0 : NONE);
                    due("wear(" + other + ")", x.wear(other), other == k ? 1 : 0);
                }
            }
        });
        sentence(0, "all 0 at first", () -> {
            StrikePasses x = new StrikePasses();
            for (int i = 0; i < 18; i++) {
                due("letter", x.letter(i / 3, i % 3), 0);
            }
        });
    }

    private static void lines() {
        sentence(0, "LINES 0, 1, .. (4 at most)", () -> {
            items("l;l;l;l;", 4);
            fault("l;l;l;l;l;", 8);
            StrikePasses x = told("l;l;l;l;");
            due("all four", x.count(0), 4);
            due("the last", x.line(3, -1), 0);
            due("a fifth", x.line(4, -1), BAD);
            due("a fifth typed", x.types(4, 6), FULL);
        });
        sentence(0, "each a row of up to 8 SIGNS", () -> {
            items("labcdef.a;", 1);
            fault("labcdef.ab;", 9);
            StrikePasses x = told("labcdef.;");
            due("the eighth", x.types(0, 5), 8);
            due("a ninth", x.types(0, 5), FULL);
            due("eight", x.line(0, -1), 8);
        });
        sentence(0, ". (a blank: three columns without dots)", () -> {
            StrikePasses x = told("da1 2 4;db8 16 32;dc64 128 1;dd1 1 1;de1 1 1;df255 255 255;l.;lf.f;");
            for (int c = 0; c < 3; c++) {
                due("a blank alone", x.dots(0, c), 0);
                due("a blank between", x.dots(1, 3 + c), 0);
                due("behind it", x.dots(1, 6 + c), 255);
            }
        });
        sentence(0, "COLUMN 3 k, 3 k and 1, 3 k and 2 of a LINE are those of its k-th SIGN", () -> {
            StrikePasses x = told("da1 2 3;db4 5 6;dc7 8 9;dd10 11 12;de13 14 15;df16 17 18;labcdefaf;");
            int[] first = {1, 4, 7, 10, 13, 16, 1, 16};
            for (int c = 0; c < 24; c++) {
                due("column " + c, x.dots(0, c), first[c / 3] + c % 3);
            }
        });
    }

    private static void texts() {
        sentence(0, "They are a text (120 letters at most)", () -> {
            String text = " ".repeat(112) + "g4;r9;l;";
            items(text, 3);
            StrikePasses x = new StrikePasses();
            due("121 letters: the last is refused, and an item is not ended", tell(x, " " + text), -130);
            due("120 letters", x.count(7), 120);
        });
        sentence(0, "blanks (32) between TOKENS", () -> {
            items("da1 2 3;lab.;", 2);
            items("   d   a   1   2   3   ;   l   a   b   .   ;   ", 2);
            items("l a b.;", 1);
            fault("n1 2;", 3);
            fault("g 1 1;", 4);
            for (int white : new int[] {0, 9, 10, 11, 12, 13, 31, 33, 133, 160}) {
                fault("g" + (char) white + "1;", 1);
            }
        });
        sentence(0, "ITEMS, each ended by ;", () -> {
            fault("g1 g2;", 3);
            fault("g1", 2);
            fault("l;l", 3);
            fault("g1;;", 3);
            fault(";", 0);
            fault("da1 1 1 l;", 8);
        });
        sentence(0, "l and SIGNS, none to eight (the next LINE)", () -> {
            for (int n = 0; n <= 8; n++) {
                StrikePasses x = told("l.;l" + "e".repeat(n) + ";l..;");
                due("signs of the second", x.line(1, -1), n);
                due("signs of the third", x.line(2, -1), 2);
            }
            fault("l" + "e".repeat(9) + ";", 9);
        });
        sentence(0, "TOKENS are the letters g, r, n, d, l, a .. f, the sign . , ; , NUMBERS.", BoundaryTests::everyLetterEverywhere);
    }

    /** What may come behind each beginning of a text; all other letters are at fault in their own place. */
    private static void everyLetterEverywhere() {
        String digits = "0123456789";
        String[][] beginnings = {
            {"", "grndl"}, {"g", "01234"}, {"r", digits}, {"n", "123456789"}, {"g1 ", ";"}, {"r9 ", ";"}, {"n72 ", ";"},
            {"d", "abcdef"}, {"da", digits}, {"da1 ", digits}, {"da1 1 ", digits}, {"da1 1 1 ", ";"}, {"l", "abcdef.;"},
            {"laaaaaaa", "abcdef.;"}, {"laaaaaaaa", ";"}, {"l;", "grndl"}, {"l;l;l;l;", "grnd"}, {"l;l;l;l", "abcdef.;"}};
        for (String[] b : beginnings) {
            for (char letter = 0; letter < 256; letter++) {
                String text = b[0] + letter;
                boolean between = b[0].isEmpty() || b[0].endsWith(";");
                if (letter == ' ' && between || letter == ';' && b[1].contains(";")) {
                    items(text, (int) text.chars().filter(c -> c == ';').count());
                } else {
                    fault(text, letter == ' ' || b[1].indexOf(letter) >= 0 ? text.length() : b[0].length());
                }
            }
        }
    }

    private static void faults() {
        sentence(0, "FAULT: the place of the first letter of the first TOKEN that can't stand there", () -> {
            fault("g5;r10;", 1);
            fault("g1;r10;n0;", 4);
            fault("   a", 3);
            fault("g a y 1000", 2);
            fault("g1;  d  g", 8);
            fault(" 12", 1);
        });
        sentence(0, "a fifth l", () -> {
            fault("l;l;l;l;l", 8);
            fault("la;lb;lc;ld; g1; l;", 17);
        });
        sentence(0, "a ninth SIGN", () -> {
            fault("l........a;", 9);
            fault("l a a a a a a a a  .", 19);
            fault("l;l;l;laaaaaaaaa", 15);
        });
        sentence(0, "a NUMBER beyond what it may be, too", () -> {
            fault("g 5;", 2);
            fault("g 999;", 2);
            fault("r 10;", 2);
            fault("n 0;", 2);
            fault("n  73;", 3);
            fault("d a 0 255 256;", 10);
            fault("d a 999", 4);
        });
        sentence(0, "of any other letter", () -> {
            fault("y", 0);
            fault("g1;y", 3);
            fault("g1;lay;", 5);
            fault("G1;", 0);
            fault("g-1;", 1);
            fault("g+1;", 1);
            fault("n1,", 2);
            fault("da1 1 1" + (char) 255, 7);
            fault("l" + (char) 0, 1);
        });
        sentence(0, "a NUMBER above 999 or with a 0 ahead of others, that TOKEN's", () -> {
            fault("n1000;", 1);
            fault("n 1001;", 2);
            fault("n00;", 1);
            fault("n 01;", 2);
            fault("n012;", 1);
            fault("r0000;", 1);
            fault("r1" + "0".repeat(118), 1);
            fault("r" + "0".repeat(119), 1);
            // each of these is a small number again where an int or a long wraps around
            fault("r4294967296;", 1);
            fault("r4294967301;", 1);
            fault("r18446744073709551616;", 1);
            fault("r18446744073709551621;", 1);
            fault("r340282366920938463463374607431768211456;", 1);
            items("r0;g0;da0 0 0;", 3);
        });
        sentence(0, "the text's length, if it ends too early", () -> {
            String[] early = {"g", "g ", "g1", "g1  ", "r", "n72", "d", "da", "da1", "da1 1", "da1 1 1", "da1 1 1   ", "l", "l  ", "laaaaaaaa",
                "g1;l", "l;l;l;l "};
            for (String text : early) {
                fault(text, text.length());
            }
            fault(" ".repeat(119) + "l", 120);
        });
        sentence(0, "d is a head where an ITEM begins, a letter else.", () -> {
            StrikePasses x = told("dd1 2 3;lddd;d d 4 5 6;");
            due("three letters", x.line(0, -1), 3);
            due("d", x.line(0, 2), 3);
            due("drawn", x.dots(0, 8), 6);
            fault("ddd", 2);
            fault("a1 2 3;", 0);
            fault("gd", 1);
        });
        sentence(0, "What is told again is as told last.", () -> {
            StrikePasses x = told("g1;r2;n3;da1 2 3;la;g4;r5;n6;da0 0 9;g3;");
            due("stagger", x.count(3), 3);
            due("rest", x.count(4), 5);
            due("feed", x.count(5), 6);
            due("first column", x.letter(0, 0), 0);
            due("last column", x.letter(0, 2), 9);
            due("of a line told earlier", x.dots(0, 2), 9);
        });
    }

    private static void passesOfLines() {
        sentence(0, "A NEEDLE strikes no two DOTS in one PASS that are REST columns or fewer apart.", () -> {
            for (int rest = 0; rest <= 9; rest++) {
                for (int apart = 1; apart <= 23; apart++) {
                    StrikePasses x = drawn(2, rest, dots(apart % 8, 0, apart), dots(7, 23 - apart, 23));
                    due(apart + " apart by rest " + rest, x.passes(0), apart <= rest ? 2 : 1);
                    due("the second", x.pass(0, apart % 8, apart), apart <= rest ? 1 : 0);
                    due("at the right end", x.pass(1, 7, 23), apart <= rest ? 1 : 0);
                }
            }
        });
        sentence(0, "each in the lowest PASS in which it may be struck", () -> {
            int[] columns = {0, 1, 3, 4, 6, 7, 9};
            int[][] byRest = {{0, 0, 0, 0, 0, 0, 0}, {0, 1, 0, 1, 0, 1, 0}, {0, 1, 0, 1, 0, 1, 0}, {0, 1, 2, 0, 1, 2, 0},
                {0, 1, 2, 3, 0, 1, 2}};
            for (int rest = 0; rest < byRest.length; rest++) {
                StrikePasses x = drawn(0, rest, dots(5, columns));
                for (int i = 0; i < columns.length; i++) {
                    due("column " + columns[i] + " by rest " + rest, x.pass(0, 5, columns[i]), byRest[rest][i]);
                }
            }
        });
        sentence(0, "as many as are needed by the NEEDLE that needs the most (0: no DOTS)", () -> {
            int[] mixed = dots(6, 0, 1, 2, 12);
            mixed[0] |= 1;
            mixed[4] |= 2;
            mixed[5] |= 2;
            StrikePasses x = drawn(2, 9, mixed, new int[3]);
            due("three by needle 6", x.passes(0), 3);
            due("none", x.passes(1), 0);
            StrikePasses full = told("r9;da255 255 255;laaaaaaaa;");
            for (int rest = 9; rest >= 0; rest--) {
                full.sets(1, rest);
                due("full, by rest " + rest, full.passes(0), rest + 1);
            }
            StrikePasses empty = told("l;");
            due("an empty line", empty.passes(0), 0);
        });
    }

    private static void wayOfTheHead() {
        sentence(0, "THE HEAD begins at column 0", () -> {
            for (int c = 0; c < 24; c++) {
                StrikePasses x = drawn(0, 1, dots(0, c));
                due("seeks", x.way(0), c);
                due("end", x.way(2), c);
            }
            due("no passes", new StrikePasses().way(2), 0);
            // lines that were on the way once are not any more, however they went
            Call[] goings = {y -> y.undo(), y -> y.back(0), y -> y.page()};
            for (Call going : goings) {
                StrikePasses y = told("da1 0 1;");
                y.keep(0);
                y.types(0, 0);
                due("while it is there", y.way(1), 2);
                going.on(y);
                due("no lines", y.count(0), 0);
                for (int what = 0; what < 3; what++) {
                    due("way(" + what + ")", y.way(what), 0);
                }
            }
        });
        sentence(0, "or c less STAGGER for an odd one, to the greatest such (both where the first needle column stands then; it may be below 0)", () -> {
            for (int stagger = 0; stagger <= 4; stagger++) {
                int[] both = dots(1, 0, 23);
                both[2] = 1;
                StrikePasses x = drawn(stagger, 9, both, dots(7, 0), dots(0, 0));
                due("least", x.span(0, 0, 0), -stagger);
                due("greatest", x.span(0, 0, 1), 23 - stagger);
                due("one odd", x.span(1, 0, 1), -stagger);
                due("one even", x.span(2, 0, 0), 0);
            }
            int[] even = dots(0, 3, 20);
            even[4] = 2;
            even[21] = 2;
            StrikePasses x = drawn(4, 0, even);
            due("an odd one is the least", x.span(0, 0, 0), 0);
            due("an even one is the greatest", x.span(0, 0, 1), 20);
        });
        sentence(0, "so that all SEEKS together are least, of several the first (PASS by PASS, left to right first)", BoundaryTests::ways);
        sentence(0, "TIME of it: SEEKS and lengths of SPANS (greatest less least) together.", () -> {
            StrikePasses x = drawn(0, 0, dots(0, 5), dots(0, 3, 7), dots(0, 4));
            // 5 alone has no length; then 3 to 7 from either end is 2 away, and 4 is nearer to 3
            due("seeks", x.way(0), 5 + 2 + 1);
            due("time", x.way(1), 8 + 4);
            due("end", x.way(2), 4);
            StrikePasses none = told("l;l.;");
            due("no passes", none.way(1), 0);
        });
    }

    /** Spans of one pass a line, and which ends are due, each found by hand. */
    private static void ways() {
        int[][][] cases = {
            // spans, then ends, then seeks together
            {{0, 6}, {0}, {0}},
            {{4, 4}, {0}, {4}},
            {{3, 6, 3, 6}, {0, 1}, {3}},
            {{3, 6, 3, 3}, {0, 0}, {6}},
            {{2, 8, 0, 0}, {0, 0}, {10}},
            {{1, 7, 0, 6, 0, 6}, {0, 1, 0}, {2}},
            {{5, 5, 3, 7}, {0, 0}, {7}},
            {{5, 5, 3, 7, 3, 3}, {0, 1, 0}, {7}},
            {{5, 5, 3, 7, 7, 7}, {0, 0, 0}, {7}},
            {{5, 5, 3, 7, 5, 5}, {0, 0, 0}, {9}},
            {{5, 5, 3, 7, 5, 5, 3, 7}, {0, 0, 0, 0}, {11}},
            {{6, 9, 0, 0}, {0, 0}, {15}},
            {{0, 9, 9, 9, 0, 9}, {0, 0, 1}, {0}}};
        for (int[][] c : cases) {
            int[][] lines = new int[c[1].length][];
            for (int l = 0; l < lines.length; l++) {
                lines[l] = dots(0, c[0][2 * l], c[0][2 * l + 1]);
            }
            StrikePasses x = drawn(0, 0, lines);
            for (int l = 0; l < lines.length; l++) {
                due("line " + l + " of " + Arrays.toString(c[0]), x.goes(l, 0), c[1][l]);
            }
            due("seeks of " + Arrays.toString(c[0]), x.way(0), c[2][0]);
        }
        // by rest 1 columns 0 1 2 are passes 0 to 2 and 1 to 1: from 2 to 1, from 1 to either end, from 2 to 1
        StrikePasses x = drawn(0, 1, dots(0, 0, 1, 2), dots(0, 0, 1, 2));
        for (int i = 0; i < 4; i++) {
            due("pass " + i % 2 + " of line " + i / 2, x.goes(i / 2, i % 2), 0);
        }
        everyWay();
        due("an end below 0 is farther for the next one above", drawn(4, 0, dots(1, 0, 8), dots(0, 4)).goes(0, 0), 0);
        due("and nearer for one below", drawn(4, 0, dots(1, 0, 8), dots(1, 0)).goes(0, 0), 1);
    }

    /** Many spans of three and four lines, and full pages of forty passes, held against all ways there are. */
    private static void everyWay() {
        int[] ends = {0, 1, 4, 6, 9};
        int spans = ends.length * ends.length;
        for (int i = 0; i < spans * spans * spans; i++) {
            int[][] lines = new int[3 + i % 2][];
            for (int l = 0; l < lines.length; l++) {
                int pair = l == 0 ? i % spans : l == 1 ? i / spans % spans : l == 2 ? i / spans / spans : i * 7 % spans;
                lines[l] = dots(i % 3 % 2, ends[pair % ends.length], ends[pair / ends.length]);
            }
            leastWay(drawn(i % 5, 0, lines));
        }
        for (int stagger = 0; stagger <= 4; stagger++) {
            for (int rest = 5; rest <= 9; rest++) {
                leastWay(told("g" + stagger + ";r" + rest + ";da255 255 255;db255 0 7;laaaaaaaa;laaaaaaab;laaaaaa;laaabaaaa;"));
            }
            leastWay(told("g" + stagger + ";r9;da255 255 255;laaaaaaaa;laaaaaaaa;laaaaaaaa;laaaa;"));
        }
        // the last pass there can be, 9 to 9 behind 0 to 10, 1 to 11, .. 8 to 18, decides by which end all of these begin
        int[] last = dots(2, 10, 11, 12, 13, 14, 15, 16, 17, 18);
        for (int c = 0; c < 10; c++) {
            last[c] = 1;
        }
        StrikePasses x = drawn(0, 9, new int[3], new int[3], dots(0, 5), last);
        leastWay(x);
        due("from the right end", x.goes(3, 0), 1);
        due("the last one", x.goes(3, 9), 0);
        due("seeks", x.way(0), 5 + 5 + 8 + 1);
    }

    /** Of all ways to either end of the latest pass only the best goes on, told by its ends as a text of 0 and 1. */
    private static void leastWay(StrikePasses x) {
        int[] at = {0, 0};
        int[] seeks = {0, 0};
        String[] turns = {"", ""};
        for (int l = 0; l < x.count(0); l++) {
            for (int p = 0; p < x.passes(l); p++) {
                int[] span = {x.span(l, p, 0), x.span(l, p, 1)};
                int[] nextSeeks = new int[2];
                String[] nextTurns = new String[2];
                for (int turn = 0; turn < 2; turn++) {
                    int a = seeks[0] + Math.abs(at[0] - span[turn]);
                    int b = seeks[1] + Math.abs(at[1] - span[turn]);
                    int from = a < b || a == b && turns[0].compareTo(turns[1]) <= 0 ? 0 : 1;
                    nextSeeks[turn] = Math.min(a, b);
                    nextTurns[turn] = turns[from] + turn;
                }
                at = new int[] {span[1], span[0]};
                seeks = nextSeeks;
                turns = nextTurns;
            }
        }
        int best = seeks[0] < seeks[1] || seeks[0] == seeks[1] && turns[0].compareTo(turns[1]) <= 0 ? 0 : 1;
        due("seeks", x.way(0), seeks[best]);
        due("end", x.way(2), at[best]);
        int pass = 0;
        for (int l = 0; l < x.count(0); l++) {
            for (int p = 0; x.goes(l, p) >= 0; p++) {
                due("pass " + p + " of line " + l, x.goes(l, p), turns[best].charAt(pass) - '0');
                pass++;
            }
        }
        due("passes", pass, turns[best].length());
    }

    private static void undone() {
        sentence(0, "the latest draws(), types(), strikes(), sets() that was not refused", () -> {
            StrikePasses x = told("da1 1 1;la;l;");
            Call[] deeds = {y -> y.draws(0, 0, 9), y -> y.types(0, 1), y -> y.types(2, 1), y -> y.strikes(0), y -> y.sets(0, 0)};
            for (int i = 0; i < deeds.length; i++) {
                deeds[i].on(x);
                due("known", x.count(8), i + 1);
            }
            Call[] refused = {y -> y.draws(0, 0, 9), y -> y.draws(0, 0, 256), y -> y.types(4, 0), y -> y.strikes(1), y -> y.strikes(3),
                y -> y.sets(0, 0), y -> y.sets(0, 5)};
            for (Call call : refused) {
                due("refused", call.on(x) < 0 ? 1 : 0, 1);
                due("still known", x.count(8), 5);
            }
            due("undo", x.undo(), 4);
            due("the set one", x.count(3), 2);
        });
        sentence(0, "(10 are known, older ones are lost)", () -> {
            for (int deeds = 8; deeds <= 13; deeds++) {
                StrikePasses x = new StrikePasses();
                for (int i = 0; i < deeds; i++) {
                    x.draws(i % 6, 0, i + 1);
                }
                int known = Math.min(10, deeds);
                due("known of " + deeds, x.count(8), known);
                for (int i = known - 1; i >= 0; i--) {
                    due("undo", x.undo(), i);
                }
                due("no more", x.undo(), STATE);
                for (int i = 0; i < 6; i++) {
                    due("letter " + i + " after " + deeds, x.letter(i, 0), i < deeds - 10 ? i + 1 : 0);
                }
            }
            deedsOfAllKinds();
        });
    }

    private static StrikePasses after(Call[] deeds, int amount) {
        StrikePasses x = told("da1 2 3;db4 5 6;lab;lba;");
        for (int i = 0; i < amount; i++) {
            if (deeds[i].on(x) < 0) {
                fail("deed " + i + " was refused");
            }
        }
        return x;
    }

    /** So many deeds undone leave the page as if they had never been done. */
    private static void deedsOfAllKinds() {
        Call[] deeds = {x -> x.draws(0, 0, 255), x -> x.types(2, 1), x -> x.strikes(0), x -> x.sets(0, 4), x -> x.types(1, 6),
            x -> x.sets(2, 72), x -> x.strikes(0), x -> x.draws(0, 1, 0), x -> x.types(3, 0), x -> x.sets(1, 9), x -> x.strikes(3),
            x -> x.draws(0, 2, 128), x -> x.types(0, 5), x -> x.sets(0, 0), x -> x.strikes(2), x -> x.draws(1, 0, 1)};
        for (int done = 0; done <= deeds.length; done++) {
            for (int undone = 0; undone <= Math.min(done, 10); undone++) {
                StrikePasses x = after(deeds, done);
                for (int i = 1; i <= undone; i++) {
                    due("undo", x.undo(), Math.min(done, 10) - i);
                }
                String page = lookAtPage(x);
                due(undone + " of " + done + " deeds undone", page.equals(lookAtPage(after(deeds, done - undone))) ? 1 : 0, 1);
            }
        }
    }

    private static void asThingsAre() {
        sentence(0, "(As things are NOW; nothing is changed.)", () -> {
            StrikePasses x = told("r9;da255 255 255;laa;");
            due("wear", x.wear(0), 6);
            due("crowd", x.crowd(0, 0), 6);
            due("easy", x.easy(0), 0);
            due("place", x.place(0, 2), 1);
            x.draws(0, 1, 0);
            due("wear now", x.wear(0), 4);
            due("crowd now", x.crowd(0, 0), 4);
            x.draws(0, 2, 0);
            due("easy now", x.easy(0), 2);
            x.strikes(0);
            due("easy then", x.easy(0), 9);
            x.undo();
            due("easy again", x.easy(0), 2);
        });
        sentence(0, "CROWD of a LINE: the most DOTS of one NEEDLE in REST and 1 columns side by side", () -> {
            StrikePasses full = told("r9;da255 255 255;laaaaaaaa;");
            for (int rest = 9; rest >= 0; rest--) {
                full.sets(1, rest);
                due("full, by rest " + rest, full.crowd(0, 0), rest + 1);
                StrikePasses two = drawn(2, rest, dots(4, 6, 6 + rest), dots(4, 6, 7 + rest));
                due("rest apart", two.crowd(0, 0), rest == 0 ? 1 : 2);
                due("one more apart", two.crowd(1, 0), 1);
            }
        });
        sentence(0, "the NEEDLE, of several the lowest", () -> {
            for (int k = 0; k < 8; k++) {
                int[] columns = dots(k, 20);
                for (int higher = k + 1; higher < 8; higher++) {
                    columns[2] |= 1 << higher;
                }
                due("needle " + k, drawn(2, 1, columns).crowd(0, 1), k);
                int[] more = dots(k, 20, 21);
                more[2] |= 255;
                due("needle " + k + " with two", drawn(2, 1, more).crowd(0, 1), k);
            }
        });
        sentence(0, "the first of these columns, of several the least", () -> {
            for (int rest = 0; rest <= 9; rest++) {
                for (int c = 0; c < 24; c++) {
                    due("column " + c + " by rest " + rest, drawn(2, rest, dots(3, c)).crowd(0, 2), Math.max(0, c - rest));
                }
                StrikePasses x = drawn(2, rest, dots(3, 0, rest, 12, 12 + rest));
                due("two places by rest " + rest, x.crowd(0, 2), 0);
            }
        });
        sentence(0, "EASY of a LINE: the greatest REST (0 .. 9) by which one PASS is enough (or none is needed)", () -> {
            for (int apart = 1; apart <= 23; apart++) {
                for (int k = 0; k < 8; k++) {
                    StrikePasses x = drawn(2, apart % 10, dots(k, 0, apart), dots(k, 23 - apart, 23));
                    due(apart + " apart, needle " + k, x.easy(0), Math.min(9, apart - 1));
                    due("at the right end, needle " + k, x.easy(1), Math.min(9, apart - 1));
                }
            }
            StrikePasses x = told("da1 2 4;l;l.;la;");
            for (int l = 0; l < 3; l++) {
                due("no two dots of one needle", x.easy(l), 9);
            }
        });
        sentence(0, "PLACE of a LINE: FEED times its number, in 72nds: whole inches, and what is left as a fraction.", () -> {
            for (int feed = 1; feed <= 72; feed++) {
                StrikePasses x = told("l;l;l;l;n" + feed + ";");
                for (int l = 0; l < 4; l++) {
                    int upper = x.place(l, 1);
                    int lower = x.place(l, 2);
                    due("whole of " + feed + " by " + l, x.place(l, 0), feed * l / 72);
                    due("the rest of " + feed + " by " + l, upper * 72, feed * l % 72 * lower);
                    due("least terms of " + feed + " by " + l, commonDivisor(upper, lower), 1);
                }
            }
        });
    }

    private static int commonDivisor(int a, int b) {
        return b == 0 ? a : commonDivisor(b, a % b);
    }

    private static void seen() {
        sentence(0, "SEEN (6 at most)", () -> {
            StrikePasses x = told("l;");
            for (int i = 1; i <= 6; i++) {
                due("sees", x.sees(0, 0), i);
            }
            due("a seventh", x.sees(0, 0), FULL);
            due("six", x.count(6), 6);
            due("forgotten", x.forget(), 6);
            due("again", x.sees(0, 0), 1);
        });
        sentence(0, "one unknown NEEDLE strikes no DOTS at all: a LINE would have n DOTS", () -> {
            // needle k has k dots, so the line would have 28 less k
            StrikePasses x = told("da254 252 248;db240 224 192;dc128 0 0;labc;");
            for (int n = 19; n <= 30; n++) {
                x.sees(0, n);
                due("unseen by " + n, x.unseen(), n > 28 || n < 21 ? 0 : 1 << 28 - n);
                x.forget();
            }
            StrikePasses full = told("da255 255 255;laaaaaaaa;");
            full.sees(0, 168);
            due("full", full.unseen(), 255);
            full.sees(0, 192);
            due("no needle has none", full.unseen(), 0);
            StrikePasses empty = told("l;");
            empty.sees(0, 0);
            due("no dots", empty.unseen(), 255);
            empty.sees(0, 1);
            due("one dot of none", empty.unseen(), 0);
        });
        sentence(0, "(where it is none any more, that is never so)", () -> {
            StrikePasses x = told("l;");
            x.keep(0);
            x.types(1, 0);
            x.sees(1, 0);
            due("while it is there", x.unseen(), 255);
            x.undo();
            due("undone", x.unseen(), 0);
            due("none to ask", x.ask(), NONE);
            due("still seen", x.count(6), 1);
            x.types(1, 0);
            due("there again", x.unseen(), 255);
            x.back(0);
            due("back to one line", x.unseen(), 0);
        });
        sentence(0, "UNSEEN: NEEDLES (bits) by which all that was SEEN is so.", () -> {
            StrikePasses x = told("da3 0 0;db5 0 0;la;lb;l;");
            due("nothing seen", x.unseen(), 255);
            x.sees(0, 1);
            due("0 or 1", x.unseen(), 0b11);
            x.sees(2, 0);
            due("any", x.unseen(), 0b11);
            x.sees(1, 1);
            due("0", x.unseen(), 0b1);
            x.sees(1, 2);
            due("no one", x.unseen(), 0);
        });
        sentence(0, "ASK: the LINE by which these tell the most unlike numbers, of several the first; NONE (one can be at most, or there are no LINES).", () -> {
            due("no lines", new StrikePasses().ask(), NONE);
            due("no dots", told("l;l;").ask(), 0);
            due("all alike", told("da255 0 0;la;laa;").ask(), 0);
            due("the last", told("da3 1 0;db1 0 0;l;lb;lb;la;").ask(), 3);
            due("of several the first", told("da3 1 0;db5 4 0;l;lb;la;").ask(), 1);
            StrikePasses x = told("da3 0 0;db1 0 0;lb;la;");
            due("two numbers each", x.ask(), 0);
            x.sees(0, 1);
            due("all but 0 can be", x.unseen(), 0b11111110);
            due("only the second tells", x.ask(), 1);
            x.sees(1, 1);
            due("one can be", x.unseen(), 0b10);
            due("one can be", x.ask(), NONE);
            x.sees(1, 0);
            due("none can be", x.ask(), NONE);
            // by line 0 needles 0 and 1 can be; line 1 has none and one of their dots, line 2 one and two
            StrikePasses y = told("da3 0 0;db1 0 0;dc3 1 0;la;lb;lc;");
            y.sees(0, 1);
            due("two can be", y.unseen(), 0b11);
            due("two numbers by either line, the first", y.ask(), 1);
        });
    }

    private static void imagesAndReading() {
        sentence(0, "IMAGES 0, 1 keep all of 1; nothing else (nothing can be UNDONE behind back()).", () -> {
            for (int image = 0; image < 2; image++) {
                StrikePasses x = told("g0;r0;n1;df255 0 255;lf.;l;");
                x.keep(image);
                x.sets(0, 4);
                x.sets(1, 9);
                x.sets(2, 72);
                x.draws(5, 0, 0);
                x.types(2, 0);
                x.strikes(0);
                x.sees(0, 3);
                x.type('l');
                due("back", x.back(image), 2);
                int[] counts = {2, 16, 1, 0, 0, 1, 1, 1, 0};
                for (int i = 0; i < counts.length; i++) {
                    due("count(" + i + ")", x.count(i), counts[i]);
                }
                due("the letter", x.letter(5, 0), 255);
                due("the line", x.line(0, 1), 6);
                due("undo", x.undo(), STATE);
                x.sets(0, 3);
                due("what is done behind it", x.undo(), 0);
                due("the image stays", x.back(image), 2);
            }
        });
        sentence(0, "(Read anew: as told, else as at first; nothing can be UNDONE, nothing SEEN, IMAGES are gone.)", () -> {
            StrikePasses x = told("g0;r0;n1;da1 1 1;la;");
            x.keep(0);
            x.keep(1);
            x.sets(0, 4);
            x.sees(0, 3);
            due("an empty text", x.page(), 0);
            int[] counts = {0, 0, 0, 2, 1, 12, 0, 0, 0};
            for (int i = 0; i < counts.length; i++) {
                due("count(" + i + ")", x.count(i), counts[i]);
            }
            for (int i = 0; i < 18; i++) {
                due("letter", x.letter(i / 3, i % 3), 0);
            }
            due("undo", x.undo(), STATE);
            due("image 0", x.back(0), STATE);
            due("image 1", x.back(1), STATE);
            due("unseen", x.unseen(), 255);
        });
    }

    private static void refusals() {
        sentence(0, "Refused, and nothing changes, the first of these: BAD (a number is not as told, or there is no such thing), STATE (as told), FULL.", () -> {
            StrikePasses x = told("l;l........;l;l;");
            for (int i = 0; i < 120; i++) {
                x.type(32);
            }
            due("type: BAD ahead of FULL", x.type(256), BAD);
            due("type: FULL", x.type(255), FULL);
            due("draws: BAD ahead of STATE", x.draws(6, 0, 0), BAD);
            due("draws: STATE", x.draws(5, 0, 0), STATE);
            due("types: BAD ahead of FULL", x.types(1, 7), BAD);
            due("types: FULL", x.types(1, 6), FULL);
            due("types: BAD ahead of FULL, a fifth line", x.types(4, 7), BAD);
            due("types: FULL, a fifth line", x.types(4, 6), FULL);
            due("types: a sixth line", x.types(5, 6), BAD);
            due("strikes: BAD", x.strikes(4), BAD);
            due("strikes: STATE", x.strikes(0), STATE);
            due("sets: BAD ahead of STATE", x.sets(3, 2), BAD);
            due("sets: STATE", x.sets(0, 2), STATE);
            for (int i = 0; i < 6; i++) {
                x.sees(0, 0);
            }
            due("sees: BAD ahead of FULL", x.sees(4, 0), BAD);
            due("sees: FULL", x.sees(3, 192), FULL);
            due("back: BAD ahead of STATE", x.back(2), BAD);
            due("back: STATE", x.back(1), STATE);
        });
        sentence(0, "`NO = -1000000`: What is BAD, or none, where a number may be below 0.", () -> {
            StrikePasses x = told("g1;da2 0 0;la;");
            due("span below 0", x.span(0, 0, 0), -1);
            due("span NO", x.span(0, 1, 0), NO);
            due("stands below 0", x.stands(0, 1, 0), -1);
            due("stands NO", x.stands(0, 0, 0), NO);
            due("way below 0", x.way(2), -1);
            due("way NO", x.way(3), NO);
        });
    }

    // ---- refused calls and questions change nothing

    private record Named(String name, Call call, boolean asks) {
    }

    private static final int[] EDGES = {Integer.MIN_VALUE, -1, 0, 1, 3, 4, 7, 8, Integer.MAX_VALUE};

    private static List<Named> calls() {
        List<Named> calls = new ArrayList<>();
        calls.add(new Named("page()", StrikePasses::page, false));
        calls.add(new Named("undo()", StrikePasses::undo, false));
        calls.add(new Named("unseen()", StrikePasses::unseen, true));
        calls.add(new Named("ask()", StrikePasses::ask, true));
        for (int a : EDGES) {
            callsOfOne(calls, a);
            for (int b : EDGES) {
                callsOfTwo(calls, a, b);
                for (int c : new int[] {Integer.MIN_VALUE, 0, 2, 24, 256}) {
                    callsOfThree(calls, a, b, c);
                }
            }
        }
        for (int letter : outside(0, 255)) {
            calls.add(new Named("type(" + letter + ")", x -> x.type(letter), false));
        }
        return calls;
    }

    private static void callsOfOne(List<Named> calls, int a) {
        String at = "(" + a + ")";
        calls.add(new Named("type" + at, x -> x.type(a), false));
        calls.add(new Named("strikes" + at, x -> x.strikes(a), false));
        calls.add(new Named("passes" + at, x -> x.passes(a), true));
        calls.add(new Named("way" + at, x -> x.way(a), true));
        calls.add(new Named("wear" + at, x -> x.wear(a), true));
        calls.add(new Named("easy" + at, x -> x.easy(a), true));
        calls.add(new Named("keep" + at, x -> x.keep(a), false));
        calls.add(new Named("back" + at, x -> x.back(a), false));
        calls.add(new Named("count" + at, x -> x.count(a), true));
    }

    private static void callsOfTwo(List<Named> calls, int a, int b) {
        String at = "(" + a + ", " + b + ")";
        calls.add(new Named("letter" + at, x -> x.letter(a, b), true));
        calls.add(new Named("line" + at, x -> x.line(a, b), true));
        calls.add(new Named("dots" + at, x -> x.dots(a, b), true));
        calls.add(new Named("types" + at, x -> x.types(a, b), false));
        calls.add(new Named("sets" + at, x -> x.sets(a, b), false));
        calls.add(new Named("goes" + at, x -> x.goes(a, b), true));
        calls.add(new Named("crowd" + at, x -> x.crowd(a, b), true));
        calls.add(new Named("place" + at, x -> x.place(a, b), true));
        calls.add(new Named("sees" + at, x -> x.sees(a, b), false));
    }

    private static void callsOfThree(List<Named> calls, int a, int b, int c) {
        String at = "(" + a + ", " + b + ", " + c + ")";
        calls.add(new Named("draws" + at, x -> x.draws(a, b, c), false));
        calls.add(new Named("pass" + at, x -> x.pass(a, b, c), true));
        calls.add(new Named("span" + at, x -> x.span(a, b, c), true));
        calls.add(new Named("stands" + at, x -> x.stands(a, b, c), true));
    }

    private static StrikePasses someState(int state) {
        if (state == 0) {
            return new StrikePasses();
        }
        StrikePasses x = told(state == 1 ? "g3;da7 0 130;lab;l;" : "g4;r9;da1 2 255;laaaaaaaa;l.;laaaaaaaa;l;");
        x.keep(0);
        x.draws(1, 1, 17);
        x.types(1, 1);
        x.sees(1, 2);
        if (state == 2) {
            x.keep(1);
            for (int i = 0; i < 6; i++) {
                x.sets(2, 30 + i);
                x.draws(5, 2, 40 + i);
                x.sees(0, 80);
            }
        }
        for (int i = 0; i < (state == 1 ? 2 : 120); i++) {
            x.type(i % 2 == 0 ? 'l' : i % 60 == 59 ? 'y' : ';');
        }
        return x;
    }

    private static String look(StrikePasses x) {
        StringBuilder all = new StringBuilder(lookAtPage(x));
        for (int i = 6; i < 9; i++) {
            all.append(' ').append(x.count(i));
        }
        return all.append(' ').append(x.unseen()).append(' ').append(x.ask()).toString();
    }

    /** Settings, letters and lines, in some eighty calls. */
    private static String lookAtPage(StrikePasses x) {
        StringBuilder all = new StringBuilder();
        for (int i = 0; i < 6; i++) {
            all.append(x.count(i)).append(' ');
        }
        for (int i = 0; i < 18; i++) {
            all.append(x.letter(i / 3, i % 3)).append(' ');
        }
        for (int l = 0; l < 4; l++) {
            int signs = x.line(l, -1);
            all.append('/').append(signs);
            for (int k = 0; k < signs; k++) {
                all.append(x.line(l, k));
            }
            all.append(' ').append(x.goes(l, 0)).append(x.goes(l, 1));
        }
        return all.append(x.way(0)).append(' ').append(x.way(2)).toString();
    }

    /** What shows the state is looked at, then what shows deeds, text and images, each on an object of its own. */
    private static String whole(int state, Call call, int part) {
        StrikePasses x = someState(state);
        call.on(x);
        StringBuilder all = new StringBuilder(look(x));
        switch (part) {
            case 0:
                for (int i = 0; i < 11; i++) {
                    all.append(' ').append(x.undo()).append(x.count(5)).append(x.letter(5, 2)).append(x.letter(1, 1)).append(x.line(1, -1));
                }
                break;
            case 1:
                all.append(' ').append(x.page()).append(look(x));
                break;
            default:
                all.append(' ').append(x.back(part - 2)).append(look(x));
                break;
        }
        return all.toString();
    }

    private static void nothingChanges() {
        for (int state = 0; state < 3; state++) {
            String[] asItWas = new String[4];
            for (int part = 0; part < 4; part++) {
                asItWas[part] = whole(state, x -> 0, part);
            }
            for (Named named : calls()) {
                int answer = named.call().on(someState(state));
                if (answer >= 0 && !named.asks()) {
                    continue;
                }
                for (int part = 0; part < 4; part++) {
                    boolean same = whole(state, named.call(), part).equals(asItWas[part]);
                    due(named.name() + " (" + answer + ") leaves state " + state + " as it was, part " + part, same ? 1 : 0, 1);
                }
            }
        }
    }

    // ---- the promises

    private static void bad(String call, int low, int high, int want, Check1 on) {
        for (int n : outside(low, high)) {
            due(call + " by " + n, on.answer(n), want);
        }
    }

    private interface Check1 {
        int answer(int n);
    }

    private static void promises1To4() {
        sentence(1, "As told; no LINES.", () -> {
            StrikePasses x = new StrikePasses();
            int[] counts = {0, 0, 0, 2, 1, 12, 0, 0, 0};
            for (int i = 0; i < counts.length; i++) {
                due("count(" + i + ")", x.count(i), counts[i]);
            }
            due("line 0", x.line(0, -1), BAD);
            due("passes", x.passes(0), BAD);
            due("undo", x.undo(), STATE);
            due("back", x.back(0), STATE);
            due("unseen", x.unseen(), 255);
            due("ask", x.ask(), NONE);
        });
        sentence(2, "A letter (0 .. 255) comes to THE TEXT: how many it has.", () -> {
            StrikePasses x = new StrikePasses();
            due("least", x.type(0), 1);
            due("greatest", x.type(255), 2);
            bad("type", 0, 255, BAD, x::type);
            due("two", x.count(7), 2);
        });
        sentence(2, "BAD; FULL: 120.", () -> {
            StrikePasses x = new StrikePasses();
            for (int i = 1; i <= 120; i++) {
                due("type", x.type(i), i);
            }
            due("121", x.type(0), FULL);
            due("BAD", x.type(-1), BAD);
            due("cleared", x.clear(), 120);
            due("again", x.type(0), 1);
        });
        sentence(3, "THE TEXT is empty: how many letters it had.", () -> {
            StrikePasses x = told("lb;");
            due("none", x.clear(), 0);
            x.type('l');
            due("one", x.clear(), 1);
            due("none again", x.clear(), 0);
            due("count", x.count(7), 0);
            due("the page stays", x.line(0, 0), 1);
            for (int i = 0; i < 121; i++) {
                x.type(';');
            }
            due("full", x.clear(), 120);
            due("nothing of it is read", x.page(), 0);
        });
        sentence(4, "THE TEXT tells all anew, and is empty then: how many ITEMS.", () -> {
            items("", 0);
            items("   ", 0);
            items("l;", 1);
            items("g1;".repeat(40), 40);
            StrikePasses x = told("g1;l;l;");
            due("empty then", x.count(7), 0);
            due("page() of the empty one", x.page(), 0);
            due("all anew", x.count(0), 0);
            due("all anew", x.count(3), 2);
        });
        sentence(4, "-10 less FAULT: nothing changes.", () -> {
            StrikePasses x = told("g0;da1 2 3;la;");
            x.sets(1, 7);
            x.keep(1);
            x.sees(0, 3);
            due("place 0", tell(x, "y"), -10);
            x.clear();
            due("all but the last read well", tell(x, "g4;r4;n4;da9 9 9;l;l;l;l;l;"), -10 - 25);
            int[] counts = {1, 4, 2, 0, 7, 12, 1, 27, 1};
            for (int i = 0; i < counts.length; i++) {
                due("count(" + i + ")", x.count(i), counts[i]);
            }
            due("the letter", x.letter(0, 0), 1);
            due("again", x.page(), -10 - 25);
            due("the image", x.back(1), 1);
            x.clear();
            due("the last place there is", tell(x, " ".repeat(119) + "y"), -129);
            x.clear();
            due("the length of a full text", tell(x, " ".repeat(119) + "g"), -130);
        });
    }

    private static void promises5To7() {
        sentence(5, "A column (0 to 2) of a letter (0 a .. 5 f). BAD.", () -> {
            StrikePasses x = told("da1 2 3;df4 5 255;");
            due("a", x.letter(0, 0), 1);
            due("f", x.letter(5, 2), 255);
            bad("letter", 0, 5, BAD, n -> x.letter(n, 0));
            bad("column", 0, 2, BAD, n -> x.letter(5, n));
        });
        sentence(6, "Of a LINE: how many SIGNS (k = -1), the k-th (0 to 5; 6 a blank).", () -> {
            StrikePasses x = told("l;labcdef.f;");
            due("none", x.line(0, -1), 0);
            due("eight", x.line(1, -1), 8);
            for (int k = 0; k < 8; k++) {
                due("the k-th", x.line(1, k), k < 7 ? k : 5);
            }
        });
        sentence(6, "BAD (k beyond its SIGNS, too).", () -> {
            StrikePasses x = told("l;lab;l........;");
            bad("k of an empty line", -1, -1, BAD, n -> x.line(0, n));
            bad("k of two signs", -1, 1, BAD, n -> x.line(1, n));
            bad("k of eight", -1, 7, BAD, n -> x.line(2, n));
            bad("line", 0, 2, BAD, n -> x.line(n, -1));
            x.strikes(1);
            due("struck out", x.line(1, 1), BAD);
        });
        sentence(7, "The dots of a COLUMN of a LINE (0 .. 23; beyond its SIGNS 0). BAD.", () -> {
            StrikePasses x = told("da1 2 3;la;l;laaaaaaaa;");
            due("its last", x.dots(0, 2), 3);
            for (int c = 3; c < 24; c++) {
                due("beyond", x.dots(0, c), 0);
            }
            due("of an empty line", x.dots(1, 0), 0);
            due("the last of a full line", x.dots(2, 23), 3);
            bad("column", 0, 23, BAD, n -> x.dots(2, n));
            bad("line", 0, 2, BAD, n -> x.dots(n, 0));
            x.strikes(0);
            due("struck out", x.dots(0, 2), 0);
        });
    }

    private static void promises8To12() {
        sentence(8, "DRAWN: what it was.", () -> {
            StrikePasses x = new StrikePasses();
            due("from none", x.draws(5, 2, 255), 0);
            due("from all", x.draws(5, 2, 0), 255);
            due("to one", x.draws(5, 2, 128), 0);
        });
        sentence(8, "BAD; STATE: it is that.", () -> {
            StrikePasses x = told("da0 255 7;");
            due("none again", x.draws(0, 0, 0), STATE);
            due("all again", x.draws(0, 1, 255), STATE);
            due("7 again", x.draws(0, 2, 7), STATE);
            bad("letter", 0, 5, BAD, n -> x.draws(n, 0, 1));
            bad("column", 0, 2, BAD, n -> x.draws(0, n, 1));
            bad("dots", 0, 255, BAD, n -> x.draws(0, 0, n));
            due("none was drawn", x.count(8), 0);
        });
        sentence(9, "TYPED (0 to 6): SIGNS of the LINE", () -> {
            StrikePasses x = told("l;");
            for (int sign = 0; sign <= 6; sign++) {
                due("types", x.types(0, sign), sign + 1);
                due("then", x.line(0, sign), sign);
            }
            bad("sign", 0, 6, BAD, n -> x.types(0, n));
            due("seven", x.line(0, -1), 7);
        });
        sentence(9, "line = how many LINES there are: a new one.", () -> {
            StrikePasses x = new StrikePasses();
            for (int l = 0; l < 4; l++) {
                due("one too far", x.types(l + 1, 0), BAD);
                due("a sign that is none makes no line", x.types(l, 7), BAD);
                due("lines", x.count(0), l);
                due("the next", x.types(l, 6), 1);
                due("lines", x.count(0), l + 1);
            }
            for (int l = 3; l >= 0; l--) {
                due("undone", x.undo(), l);
                due("the line goes, too", x.count(0), l);
            }
            due("anew, with its own signs alone", x.types(0, 2), 1);
            due("anew", x.line(0, 0), 2);
        });
        sentence(9, "BAD; FULL: 8 SIGNS, 4 LINES.", () -> {
            StrikePasses x = told("l;l.......;l;");
            bad("line", 0, 3, BAD, n -> x.types(n, 0));
            due("the eighth", x.types(1, 0), 8);
            due("a ninth", x.types(1, 0), FULL);
            due("the fourth", x.types(3, 0), 1);
            due("a fifth", x.types(4, 0), FULL);
            due("a sixth", x.types(5, 0), BAD);
            due("known", x.count(8), 2);
            x.undo();
            due("undone, there is room", x.types(3, 5), 1);
            x.strikes(1);
            due("struck out, there is room", x.types(1, 5), 8);
        });
        sentence(10, "STRUCK OUT: the SIGN.", () -> {
            StrikePasses x = told("labcdef.a;");
            for (int k = 7; k >= 0; k--) {
                due("strikes", x.strikes(0), k < 7 ? k : 0);
                due("left", x.line(0, -1), k);
            }
        });
        sentence(10, "BAD; STATE: the LINE is empty.", () -> {
            StrikePasses x = told("l;la;");
            due("empty", x.strikes(0), STATE);
            due("a", x.strikes(1), 0);
            due("empty then", x.strikes(1), STATE);
            due("the line stays", x.count(0), 2);
            bad("line", 0, 1, BAD, x::strikes);
            bad("no lines", 0, -1, BAD, n -> new StrikePasses().strikes(n));
        });
        sentence(11, "SET: STAGGER (what = 0), REST (1), FEED (2): what it was.", () -> {
            StrikePasses x = new StrikePasses();
            int[][] ends = {{0, 4, 2}, {0, 9, 1}, {1, 72, 12}};
            for (int what = 0; what < 3; what++) {
                int setting = what;
                bad("v", ends[what][0], ends[what][1], BAD, n -> x.sets(setting, n));
                due("least", x.sets(what, ends[what][0]), ends[what][2]);
                due("greatest", x.sets(what, ends[what][1]), ends[what][0]);
            }
            bad("what", 0, 2, BAD, n -> x.sets(n, 3));
        });
        sentence(11, "BAD; STATE: it is that.", () -> {
            StrikePasses x = new StrikePasses();
            int[][] values = {{2, 0, 4}, {1, 0, 9}, {12, 1, 72}};
            for (int what = 0; what < 3; what++) {
                for (int v : values[what]) {
                    x.sets(what, v);
                    due("again", x.sets(what, v), STATE);
                }
            }
            due("known", x.count(8), 6);
        });
        sentence(12, "UNDONE: how many more may be.", () -> {
            StrikePasses x = told("lab;");
            x.strikes(0);
            x.strikes(0);
            x.types(0, 6);
            due("two more", x.undo(), 2);
            due("one more", x.undo(), 1);
            due("no more", x.undo(), 0);
            due("as told", x.line(0, 0) * 10 + x.line(0, 1), 1);
            due("an undo cannot be undone", x.undo(), STATE);
        });
        sentence(12, "STATE: none.", () -> {
            StrikePasses x = new StrikePasses();
            due("new", x.undo(), STATE);
            x.type(';');
            x.clear();
            x.keep(0);
            x.types(0, 0);
            x.undo();
            due("undone", x.undo(), STATE);
            x.types(0, 0);
            x.sees(0, 0);
            x.forget();
            x.back(0);
            due("behind back()", x.undo(), STATE);
            x.types(0, 0);
            x.page();
            due("behind page()", x.undo(), STATE);
        });
    }

    private static void promises13To18() {
        sentence(13, "How many PASSES of a LINE. BAD.", () -> {
            StrikePasses x = told("r9;da255 255 255;laaaaaaaa;l;l.;");
            due("ten", x.passes(0), 10);
            due("none", x.passes(1), 0);
            due("none", x.passes(2), 0);
            bad("line", 0, 2, BAD, x::passes);
        });
        sentence(14, "The PASS of a DOT; NONE: there is none.", () -> {
            StrikePasses x = told("r9;da129 129 129;laaaaaaaa;la;");
            for (int c = 0; c < 24; c++) {
                due("needle 0", x.pass(0, 0, c), c % 10);
                due("needle 7", x.pass(0, 7, c), c % 10);
                due("no dot", x.pass(0, 6, c), NONE);
                due("beyond its signs", x.pass(1, 0, c), c < 3 ? c : NONE);
            }
        });
        sentence(14, "BAD.", () -> {
            StrikePasses x = told("da255 255 255;laaaaaaaa;");
            bad("line", 0, 0, BAD, n -> x.pass(n, 0, 0));
            bad("needle", 0, 7, BAD, n -> x.pass(0, n, 0));
            bad("column", 0, 23, BAD, n -> x.pass(0, 0, n));
            bad("where there is no dot", 0, 7, BAD, n -> told("l;").pass(0, n, 0));
        });
        sentence(15, "NO: BAD, no such PASS.", () -> {
            StrikePasses x = told("r9;g0;da255 255 255;laaaaaaaa;l;");
            due("the last pass", x.span(0, 9, 0), 9);
            due("the last pass", x.span(0, 9, 1), 19);
            due("one beyond", x.span(0, 10, 0), NO);
            bad("pass", 0, 9, NO, n -> x.span(0, n, 0));
            bad("line", 0, 1, NO, n -> x.span(n, 0, 0));
            bad("what", 0, 1, NO, n -> x.span(0, 0, n));
            due("of an empty line", x.span(1, 0, 0), NO);
            due("below 0, behind a line of ten", x.span(1, -1, 0), NO);
            x.sets(1, 8);
            due("a pass less", x.span(0, 9, 0), NO);
        });
        sentence(16, "NONE: no such PASS.", () -> {
            StrikePasses x = told("r9;da255 255 255;laaaaaaaa;l;");
            due("the last pass", x.goes(0, 9) >= 0 ? 1 : 0, 1);
            due("one beyond", x.goes(0, 10), NONE);
            due("far beyond", x.goes(0, Integer.MAX_VALUE), NONE);
            due("a pass of the next line's place", x.goes(1, 0), NONE);
            x.sets(1, 8);
            due("a pass less", x.goes(0, 9), NONE);
        });
        sentence(16, "BAD: no LINE, pass below 0.", () -> {
            StrikePasses x = told("da1 0 0;la;l;");
            bad("line", 0, 1, BAD, n -> x.goes(n, 0));
            for (int l = 0; l < 2; l++) {
                for (int pass : new int[] {-1, -2, -9, -10, Integer.MIN_VALUE}) {
                    due("pass " + pass, x.goes(l, pass), BAD);
                }
            }
            due("no line and no pass", x.goes(2, 99), BAD);
        });
        sentence(17, "NO: BAD, no DOT.", () -> {
            StrikePasses x = told("da254 255 255;laaaaaaa;");
            due("no dot", x.stands(0, 0, 0), NO);
            due("a dot", x.stands(0, 1, 0), -2);
            due("beyond its signs", x.stands(0, 1, 21), NO);
            due("its last", x.stands(0, 1, 20), 18);
            bad("line", 0, 0, NO, n -> x.stands(n, 1, 0));
            bad("needle", 0, 7, NO, n -> x.stands(0, n, 1));
            bad("column", 0, 23, NO, n -> x.stands(0, 1, n));
        });
        sentence(18, "where THE HEAD is at the end (2; below 0, too)", () -> {
            for (int stagger = 0; stagger <= 4; stagger++) {
                StrikePasses x = drawn(stagger, 1, dots(7, 0));
                due("end", x.way(2), -stagger);
                due("seeks", x.way(0), stagger);
                due("time", x.way(1), stagger);
            }
        });
        sentence(18, "NO: BAD.", () -> bad("what", 0, 2, NO, n -> told("l;").way(n)));
    }

    private static void promises19To22() {
        sentence(19, "WEAR. BAD.", () -> {
            StrikePasses x = told("da255 255 255;" + "laaaaaaaa;".repeat(4));
            for (int k = 0; k < 8; k++) {
                due("full", x.wear(k), 96);
                due("no lines", new StrikePasses().wear(k), 0);
            }
            bad("needle", 0, 7, BAD, x::wear);
        });
        sentence(20, "how many (what = 0), the NEEDLE (1), the column (2); NONE (1, 2: no DOTS). BAD.", () -> {
            StrikePasses x = told("da0 0 128;l;l.;l.......a;lb;");
            for (int l : new int[] {0, 1, 3}) {
                due("no dots", x.crowd(l, 0), 0);
                due("no needle", x.crowd(l, 1), NONE);
                due("no column", x.crowd(l, 2), NONE);
            }
            due("the last dot there is", x.crowd(2, 0), 1);
            due("its needle", x.crowd(2, 1), 7);
            due("its column, by rest 1", x.crowd(2, 2), 22);
            bad("line", 0, 3, BAD, n -> x.crowd(n, 0));
            bad("what", 0, 2, BAD, n -> x.crowd(2, n));
        });
        sentence(21, "EASY. BAD.", () -> {
            StrikePasses x = told("r9;da255 255 255;laaaaaaaa;l;");
            due("full", x.easy(0), 0);
            due("empty", x.easy(1), 9);
            bad("line", 0, 1, BAD, x::easy);
        });
        sentence(22, "whole inches (what = 0), upper (1), lower number (2) of the rest, in least terms (0 by 1). BAD.", () -> {
            StrikePasses x = told("n72;l;l;l;l;");
            int[][] byFeed = {{72, 3, 0, 1}, {71, 2, 23, 24}, {24, 1, 0, 1}, {1, 0, 1, 24}, {36, 1, 1, 2}, {25, 1, 1, 24}, {23, 0, 23, 24}};
            for (int[] f : byFeed) {
                x.sets(2, f[0]);
                for (int what = 0; what < 3; what++) {
                    due("line 3 by " + f[0], x.place(3, what), f[1 + what]);
                    due("line 0 by " + f[0], x.place(0, what), what == 2 ? 1 : 0);
                }
            }
            bad("line", 0, 3, BAD, n -> x.place(n, 0));
            bad("what", 0, 2, BAD, n -> x.place(0, n));
        });
    }

    private static void promises23To29() {
        sentence(23, "BAD (n 0 .. 192); FULL: 6.", () -> {
            StrikePasses x = told("l;l;");
            bad("n", 0, 192, BAD, n -> x.sees(0, n));
            bad("line", 0, 1, BAD, n -> x.sees(n, 0));
            due("nothing seen", x.count(6), 0);
            due("least", x.sees(0, 0), 1);
            due("greatest", x.sees(1, 192), 2);
            for (int i = 3; i <= 6; i++) {
                due("the same again", x.sees(1, 192), i);
            }
            due("a seventh", x.sees(0, 0), FULL);
            due("BAD", x.sees(0, 193), BAD);
            due("no lines", new StrikePasses().sees(0, 0), BAD);
        });
        sentence(24, "Nothing is SEEN: how much was.", () -> {
            StrikePasses x = told("l;");
            due("none", x.forget(), 0);
            for (int i = 0; i < 7; i++) {
                x.sees(0, 5);
            }
            due("never so", x.unseen(), 0);
            due("six", x.forget(), 6);
            due("none again", x.forget(), 0);
            due("any", x.unseen(), 255);
        });
        sentence(25, "UNSEEN (bits).", () -> {
            due("no lines", new StrikePasses().unseen(), 255);
            for (int k = 0; k < 8; k++) {
                StrikePasses x = drawn(2, 1, dots(k, 23));
                x.sees(0, 0);
                due("needle " + k, x.unseen(), 1 << k);
                x.forget();
                x.sees(0, 1);
                due("all but " + k, x.unseen(), 255 - (1 << k));
                x.sees(0, 0);
                due("none", x.unseen(), 0);
            }
        });
        sentence(26, "ASK; NONE.", () -> {
            due("no lines", new StrikePasses().ask(), NONE);
            StrikePasses x = told("da1 0 0;l;l;l;la;");
            due("the last line", x.ask(), 3);
            x.sees(3, 0);
            due("one can be", x.ask(), NONE);
            x.forget();
            x.sees(3, 1);
            due("seven can be, alike by all lines", x.ask(), 0);
            x.sees(3, 2);
            due("none can be", x.ask(), NONE);
            // a needle's 24 dots are the most there are: eight unlike numbers of a full line
            StrikePasses y = told("da255 254 252;db248 240 224;dc192 128 128;dd128 128 128;l;labcddddd;");
            due("unlike as can be", y.ask(), 1);
        });
        sentence(27, "An IMAGE is kept: LINES. BAD.", () -> {
            StrikePasses x = new StrikePasses();
            due("no lines", x.keep(0), 0);
            bad("image", 0, 1, BAD, x::keep);
            due("the other is not kept", x.back(1), STATE);
            for (int l = 0; l < 4; l++) {
                x.types(l, 0);
            }
            due("four", x.keep(1), 4);
            due("back to none", x.back(0), 0);
            due("back to four", x.back(1), 4);
            due("the other kept anew", x.keep(0), 4);
            due("back to it", x.back(0), 4);
        });
        sentence(28, "BAD; STATE: none was kept.", () -> {
            StrikePasses x = told("l;");
            due("none", x.back(0), STATE);
            due("none", x.back(1), STATE);
            bad("image", 0, 1, BAD, x::back);
            x.keep(1);
            due("the other", x.back(0), STATE);
            due("kept", x.back(1), 1);
            due("as often as one likes", x.back(1), 1);
            bad("image, when one is kept", 0, 1, BAD, x::back);
            x.page();
            due("read anew", x.back(1), STATE);
        });
        sentence(29, "0 LINES, 1 DOTS of all, 2 PASSES of all, 3 STAGGER, 4 REST, 5 FEED, 6 SEEN, 7 letters of THE TEXT, 8 how many may be UNDONE. BAD.", () -> {
            StrikePasses x = told("da255 255 255;" + "laaaaaaaa;".repeat(4));
            for (int i = 0; i < 120; i++) {
                x.type(0);
            }
            for (int i = 0; i < 6; i++) {
                x.sees(i % 4, 168);
                x.sets(0, i % 2 == 0 ? 3 : 4);
                x.sets(2, 67 + i);
            }
            x.sets(1, 9);
            int[] most = {4, 768, 40, 4, 9, 72, 6, 120, 10};
            for (int i = 0; i < most.length; i++) {
                due("count(" + i + ")", x.count(i), most[i]);
            }
            bad("what", 0, 8, BAD, x::count);
        });
    }

    public static void main(String[] args) throws IOException {
        readDocument();
        needles();
        letters();
        lines();
        texts();
        faults();
        passesOfLines();
        wayOfTheHead();
        undone();
        asThingsAre();
        seen();
        imagesAndReading();
        refusals();
        sentence(0, "Refused, and nothing changes", BoundaryTests::nothingChanges);
        promises1To4();
        promises5To7();
        promises8To12();
        promises13To18();
        promises19To22();
        promises23To29();
        current = "all promises";
        due("promises with a sentence here, and those ahead", tested.size(), PROMISES + 1);
        System.out.println(sentences + " sentences, " + (checks - wrong) + " answers as due, " + wrong + " not");
        if (wrong != 0) {
            System.exit(1);
        }
    }
}
