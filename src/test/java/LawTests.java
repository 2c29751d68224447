import java.io.IOException;
import java.nio.file.Files;
import java.nio.file.Path;
import java.util.ArrayList;
import java.util.Arrays;
import java.util.List;
import java.util.Set;
import java.util.TreeSet;

/**
 * The document's first sentence, part by part, as laws that hold between the calls on drawn pages. No second program
 * stands behind them: each law looks at answers of the class alone, and at the page that was told to it.
 */
public final class LawTests {
    private static final int NONE = -9, NO = -1000000, STATE = -2;
    private static final int PAGES = 400;
    private static final int CALLS = 512;
    private static final int NEEDLES = 8, COLUMNS = 24, BLANK = 6;
    /** So many passes have at most 4096 ways, which are all tried. */
    private static final int MOST_TRIED = 12;
    private static final Path DOCUMENT = Path.of("../shared/DOC.md");

    private interface Law {
        void hold();
    }

    private static long drawn = 20261118L;
    private static Page page;
    private static StrikePasses object;
    private static int used;
    private static String current = "";
    private static int checks = 0;
    private static int wrong = 0;

    // ---- pages

    private static int below(int bound) {
        drawn = drawn * 6364136223846793005L + 1442695040888963407L;
        return (int) ((drawn >>> 33) % bound);
    }

    private static final class Page {
        final int[] settings = {below(5), below(3) == 0 ? below(10) : below(4), 1 + below(72)};
        final int[][] letters = new int[6][3];
        final List<int[]> lines = new ArrayList<>();

        Page() {
            int crowded = below(4);
            for (int[] letter : letters) {
                for (int c = 0; c < 3; c++) {
                    letter[c] = below(256) & (crowded > 0 ? below(256) : 255) & (crowded > 2 ? below(256) : 255);
                }
            }
            int many = below(5);
            for (int l = 0; l < many; l++) {
                int[] signs = new int[1 + below(8)];
                for (int k = 0; k < signs.length; k++) {
                    signs[k] = below(7);
                }
                lines.add(signs);
            }
        }

        StrikePasses make() {
            StrikePasses x = new StrikePasses();
            used = 0;
            for (int what = 0; what < 3; what++) {
                x.sets(what, settings[what]);
                used++;
            }
            for (int i = 0; i < 18; i++) {
                x.draws(i / 3, i % 3, letters[i / 3][i % 3]);
                used++;
            }
            for (int l = 0; l < lines.size(); l++) {
                for (int sign : lines.get(l)) {
                    x.types(l, sign);
                    used++;
                }
            }
            return x;
        }

        boolean dot(int l, int needle, int column) {
            int k = column / 3;
            return k < lines.get(l).length && lines.get(l)[k] != BLANK
                && (letters[lines.get(l)[k]][column % 3] >> needle & 1) == 1;
        }

        int amount(int l, int needle, int from, int columns) {
            int n = 0;
            for (int c = from; c < Math.min(COLUMNS, from + columns); c++) {
                n += dot(l, needle, c) ? 1 : 0;
            }
            return n;
        }

        int amount(int l, int needle) {
            return amount(l, needle, 0, COLUMNS);
        }

        int total(int l) {
            int n = 0;
            for (int k = 0; k < NEEDLES; k++) {
                n += amount(l, k);
            }
            return n;
        }

        String text() {
            StringBuilder text = new StringBuilder();
            for (int what = 0; what < 3; what++) {
                text.append("grn".charAt(what)).append(settings[what]).append(';');
            }
            for (int i = 0; i < 6; i++) {
                text.append('d').append("abcdef".charAt(i)).append(letters[i][0]).append(' ');
                text.append(letters[i][1]).append(' ').append(letters[i][2]).append(';');
            }
            for (int[] signs : lines) {
                text.append('l');
                for (int sign : signs) {
                    text.append("abcdef.".charAt(sign));
                }
                text.append(';');
            }
            return text.toString();
        }
    }

    /** The object with the page; a new one of the same before the 512 calls are spent. Only for questions. */
    private static StrikePasses x() {
        if (used >= CALLS) {
            object = page.make();
        }
        used++;
        return object;
    }

    private static void fresh() {
        object = page.make();
    }

    // ---- what is due

    private static void due(String what, int got, int want) {
        checks++;
        if (got != want) {
            wrong++;
            if (wrong <= 40) {
                System.out.println(current + ": " + what + " is " + got + ", due is " + want + " on " + page.text());
            }
        }
    }

    private static void due(String what, boolean holds) {
        due(what, holds ? 1 : 0, 1);
    }

    private static void law(String quote, String document, Law law) {
        current = quote;
        if (!document.contains(quote)) {
            due("the document's sentence", false);
        }
        fresh();
        law.hold();
    }

    // ---- the page

    private static List<Integer> look(StrikePasses x) {
        List<Integer> seen = new ArrayList<>();
        for (int i = 0; i < 18; i++) {
            seen.add(x.letter(i / 3, i % 3));
        }
        for (int l = 0; l < x.count(0); l++) {
            for (int k = -1; k < x.line(l, -1); k++) {
                seen.add(x.line(l, k));
            }
        }
        for (int what = 1; what < 6; what++) {
            seen.add(x.count(what));
        }
        for (int what = 0; what < 3; what++) {
            seen.add(x.way(what));
        }
        return seen;
    }

    private static void toldByAText() {
        String text = page.text();
        if (text.length() > 120) {
            return;
        }
        StrikePasses told = new StrikePasses();
        for (int i = 0; i < text.length(); i++) {
            told.type(text.charAt(i));
        }
        due("items", told.page(), 9 + page.lines.size());
        due("what is told as what is done", look(told).equals(look(object)));
    }

    private static void whichDots() {
        for (int l = 0; l < page.lines.size(); l++) {
            for (int c = 0; c < COLUMNS; c++) {
                int bits = 0;
                for (int k = 0; k < NEEDLES; k++) {
                    bits |= page.dot(l, k, c) ? 1 << k : 0;
                }
                due("dots", x().dots(l, c), bits);
            }
        }
    }

    // ---- passes

    /** Fewer can't be: the dots of the fullest columns side by side must all be in unlike passes. */
    private static void asFewAsTheRestAllows() {
        int sum = 0;
        for (int l = 0; l < page.lines.size(); l++) {
            int most = 0;
            for (int k = 0; k < NEEDLES; k++) {
                for (int c = 0; c < COLUMNS; c++) {
                    most = Math.max(most, page.amount(l, k, c, page.settings[1] + 1));
                }
            }
            due("passes", x().passes(l), most);
            sum += most;
        }
        due("passes of all", x().count(2), sum);
    }

    private static void whichPass() {
        int rest = page.settings[1];
        for (int l = 0; l < page.lines.size(); l++) {
            for (int k = 0; k < NEEDLES; k++) {
                int[] pass = new int[COLUMNS];
                for (int c = 0; c < COLUMNS; c++) {
                    pass[c] = x().pass(l, k, c);
                    due("a pass where a dot is", (pass[c] != NONE) == page.dot(l, k, c));
                    boolean[] taken = new boolean[COLUMNS + 1];
                    for (int b = Math.max(0, c - rest); b < c; b++) {
                        if (pass[b] >= 0) {
                            taken[pass[b]] = true;
                        }
                    }
                    int lowest = 0;
                    while (taken[lowest]) {
                        lowest++;
                    }
                    due("the lowest pass", pass[c], page.dot(l, k, c) ? lowest : NONE);
                }
            }
        }
    }

    private static void whereTheHeadStands() {
        for (int l = 0; l < page.lines.size(); l++) {
            int many = x().passes(l);
            int[] least = new int[many];
            int[] greatest = new int[many];
            Arrays.fill(least, Integer.MAX_VALUE);
            Arrays.fill(greatest, Integer.MIN_VALUE);
            for (int k = 0; k < NEEDLES; k++) {
                for (int c = 0; c < COLUMNS; c++) {
                    int head = x().stands(l, k, c);
                    due("stands", head, !page.dot(l, k, c) ? NO : k % 2 == 0 ? c : c - page.settings[0]);
                    if (head != NO) {
                        int p = x().pass(l, k, c);
                        least[p] = Math.min(least[p], head);
                        greatest[p] = Math.max(greatest[p], head);
                    }
                }
            }
            for (int p = 0; p < many; p++) {
                due("least", x().span(l, p, 0), least[p]);
                due("greatest", x().span(l, p, 1), greatest[p]);
            }
            due("beyond the last pass", x().span(l, many, 0), NO);
        }
    }

    private static int[][] spans() {
        List<int[]> spans = new ArrayList<>();
        for (int l = 0; l < page.lines.size(); l++) {
            int many = x().passes(l);
            for (int p = 0; p < many; p++) {
                spans.add(new int[] {x().span(l, p, 0), x().span(l, p, 1), x().goes(l, p)});
            }
        }
        return spans.toArray(new int[0][]);
    }

    /** The seeks of the way whose turns are the bits of a number, the first pass by the highest bit. */
    private static int seeks(int[][] spans, int turns) {
        int head = 0;
        int sum = 0;
        for (int i = 0; i < spans.length; i++) {
            int turn = turns >> (spans.length - 1 - i) & 1;
            sum += Math.abs(head - spans[i][turn]);
            head = spans[i][1 - turn];
        }
        return sum;
    }

    private static void nearerInTheWhole() {
        int[][] spans = spans();
        if (spans.length > MOST_TRIED) {
            return;
        }
        int best = 0;
        for (int turns = 1; turns < 1 << spans.length; turns++) {
            if (seeks(spans, turns) < seeks(spans, best)) {
                best = turns;
            }
        }
        for (int i = 0; i < spans.length; i++) {
            due("which end of pass " + i, spans[i][2], best >> (spans.length - 1 - i) & 1);
        }
        due("seeks", x().way(0), seeks(spans, best));
    }

    private static void seeksAndTimes() {
        int head = 0;
        int seeks = 0;
        int strokes = 0;
        for (int[] span : spans()) {
            due("a turn", span[2] == 0 || span[2] == 1);
            seeks += Math.abs(head - span[span[2]]);
            strokes += span[1] - span[0];
            head = span[1 - span[2]];
        }
        due("seeks", x().way(0), seeks);
        due("time", x().way(1), seeks + strokes);
        due("end", x().way(2), head);
    }

    // ---- paper, deeds

    private static void fedInFractions() {
        for (int l = 0; l < page.lines.size(); l++) {
            int whole = x().place(l, 0);
            int upper = x().place(l, 1);
            int lower = x().place(l, 2);
            due("a fraction", whole >= 0 && upper >= 0 && lower > upper && 72 % lower == 0);
            due("72nds", whole * 72 + upper * (72 / lower), page.settings[2] * l);
            for (int d = 2; d <= lower; d++) {
                due("least terms", upper % d != 0 || lower % d != 0);
            }
        }
    }

    private static int deed(StrikePasses x) {
        switch (below(4)) {
            case 0: return x.draws(below(6), below(3), below(256));
            case 1: return x.types(below(5), below(7));
            case 2: return x.strikes(below(4));
            default: return x.sets(below(3), below(10));
        }
    }

    private static void undone() {
        List<Integer> before = look(object);
        StrikePasses x = page.make();
        int done = 0;
        for (int tries = 0; tries < 40 && done < 10; tries++) {
            if (deed(x) >= 0) {
                done++;
            }
        }
        for (int more = done - 1; more >= 0; more--) {
            int known = x.undo();
            due("how many more", known >= more && known == x.count(8));
        }
        due("all as before", look(x).equals(before));
    }

    // ---- wear, crowds

    private static void mostCrowded() {
        for (int l = 0; l < page.lines.size(); l++) {
            int many = x().crowd(l, 0);
            int needle = x().crowd(l, 1);
            int column = x().crowd(l, 2);
            due("none together", (needle == NONE) == (many == 0) && (column == NONE) == (many == 0));
            for (int k = 0; k < NEEDLES; k++) {
                for (int c = 0; c < COLUMNS; c++) {
                    int n = page.amount(l, k, c, page.settings[1] + 1);
                    boolean ahead = k < needle || k == needle && c < column;
                    due("no more", many == 0 ? n == 0 : ahead ? n < many : n <= many);
                }
            }
            if (many > 0) {
                due("so many there", page.amount(l, needle, column, page.settings[1] + 1), many);
            }
        }
    }

    private static void onePassIsEnough() {
        for (int l = 0; l < page.lines.size(); l++) {
            StrikePasses x = page.make();
            int easy = x.easy(l);
            due("a rest", easy >= 0 && easy <= 9);
            for (int rest = 0; rest <= 9; rest++) {
                x.sets(1, rest);
                due("one is enough by " + rest, (x.passes(l) <= 1) == (rest <= easy));
                due("easy by any rest", x.easy(l), easy);
            }
        }
    }

    private static void worn() {
        int all = 0;
        for (int k = 0; k < NEEDLES; k++) {
            int own = 0;
            for (int l = 0; l < page.lines.size(); l++) {
                own += page.amount(l, k);
            }
            due("wear", x().wear(k), own);
            all += own;
        }
        due("dots of all", x().count(1), all);
    }

    // ---- which needle

    /** One needle is stuck, and what the lines then show is told as it is asked for. */
    private static void whichIsStuck() {
        int stuck = below(NEEDLES);
        int suspects = 255;
        for (int asked = 0; asked < 6; asked++) {
            due("unseen", x().unseen(), suspects);
            int l = x().ask();
            if (Integer.bitCount(suspects) < 2 || page.lines.isEmpty()) {
                due("nothing to ask", l, NONE);
                return;
            }
            due("a line", l >= 0 && l < page.lines.size());
            for (int other = 0; other < page.lines.size(); other++) {
                int unlike = unlike(other, suspects);
                due("the first of the best", other < l ? unlike < unlike(l, suspects) : unlike <= unlike(l, suspects));
            }
            due("sees", x().sees(l, page.total(l) - page.amount(l, stuck)), asked + 1);
            for (int k = 0; k < NEEDLES; k++) {
                if (page.amount(l, k) != page.amount(l, stuck)) {
                    suspects &= ~(1 << k);
                }
            }
        }
        due("the stuck one", (x().unseen() >> stuck & 1), 1);
    }

    private static int unlike(int l, int suspects) {
        Set<Integer> numbers = new TreeSet<>();
        for (int k = 0; k < NEEDLES; k++) {
            if ((suspects >> k & 1) == 1) {
                numbers.add(page.total(l) - page.amount(l, k));
            }
        }
        return numbers.size();
    }

    // ---- images

    private static void images() {
        List<Integer> before = look(object);
        StrikePasses x = page.make();
        int image = below(2);
        due("lines", x.keep(image), page.lines.size());
        due("the other is none", x.back(1 - image), STATE);
        for (int i = 0; i < 12; i++) {
            deed(x);
        }
        due("lines", x.back(image), page.lines.size());
        due("all as before", look(x).equals(before));
        due("nothing to undo", x.undo(), STATE);
    }

    public static void main(String[] args) throws IOException {
        String document = Files.readString(DOCUMENT).replaceAll("\\s+", " ");
        for (int i = 0; i < PAGES; i++) {
            page = new Page();
            law("letters as dots in columns, told by a text", document, LawTests::toldByAText);
            law("a page of lines, which dots each has", document, LawTests::whichDots);
            law("strikes put into as few passes as the rest allows", document, LawTests::asFewAsTheRestAllows);
            law("which pass each dot falls in", document, LawTests::whichPass);
            law("where the head stands as each needle strikes", document, LawTests::whereTheHeadStands);
            law("each pass from the end that is nearer in the whole", document, LawTests::nearerInTheWhole);
            law("seeks and times", document, LawTests::seeksAndTimes);
            law("paper fed in fractions", document, LawTests::fedInFractions);
            law("letters drawn anew, lines typed, struck out, other rests, undone", document, LawTests::undone);
            law("dots that are most crowded", document, LawTests::mostCrowded);
            law("the rest by which one pass is enough", document, LawTests::onePassIsEnough);
            law("how far a needle is worn", document, LawTests::worn);
            law("which needle is stuck, by dots that are missing", document, LawTests::whichIsStuck);
            law("images.", document, LawTests::images);
        }
        System.out.println(checks - wrong + " answers keep the laws, " + wrong + " do not");
        if (wrong > 0) {
            System.exit(1);
        }
    }
}
