import java.util.ArrayDeque;
import java.util.ArrayList;
import java.util.Arrays;
import java.util.HashSet;
import java.util.List;
import java.util.Set;
import java.util.regex.Matcher;
import java.util.regex.Pattern;

/**
 * Long runs of drawn calls, each answer held against a second program that is written from the
 * document's definitions with other means (whole copies for undo and images, many ways tried side by side).
 */
public final class ModelTests {
    private static final int BAD = -1, STATE = -2, FULL = -3, NONE = -9, NO = -1000000;
    private static final int RUNS = 3000;
    private static final int CALLS = 512;

    /** The drawing is the same in every run of the test. */
    private static final class Draw {
        private long state;

        Draw(long seed) {
            state = seed * 0x9E3779B97F4A7C15L + 1;
        }

        int below(int bound) {
            state = state * 6364136223846793005L + 1442695040888963407L;
            return (int) ((state >>> 33) % bound);
        }

        /** Mostly from low to high, sometimes one beyond, seldom far beyond. */
        int about(int low, int high) {
            int kind = below(40);
            if (kind == 0) {
                return low - 1;
            }
            if (kind == 1) {
                return high + 1;
            }
            if (kind == 2) {
                int[] far = {Integer.MIN_VALUE, Integer.MAX_VALUE, -100, 1000, 0x40000000, -0x40000000};
                return far[below(far.length)];
            }
            return low + below(high - low + 1);
        }
    }

    private static final class Book {
        int stagger = 2, rest = 1, feed = 12;
        int[][] letters = new int[6][3];
        List<List<Integer>> lines = new ArrayList<>();

        Book copy() {
            Book b = new Book();
            b.stagger = stagger;
            b.rest = rest;
            b.feed = feed;
            for (int i = 0; i < 6; i++) {
                b.letters[i] = letters[i].clone();
            }
            for (List<Integer> line : lines) {
                b.lines.add(new ArrayList<>(line));
            }
            return b;
        }

        boolean has(int l) {
            return l >= 0 && l < lines.size();
        }

        boolean dot(int l, int needle, int column) {
            return (dots(l, column) & (1 << needle)) != 0;
        }

        int dots(int l, int column) {
            int k = column / 3;
            if (k >= lines.get(l).size() || lines.get(l).get(k) == 6) {
                return 0;
            }
            return letters[lines.get(l).get(k)][column % 3];
        }

        int amount(int l, int needle) {
            int n = 0;
            for (int c = 0; c < 24; c++) {
                n += dot(l, needle, c) ? 1 : 0;
            }
            return n;
        }

        int total(int l) {
            int n = 0;
            for (int k = 0; k < 8; k++) {
                n += amount(l, k);
            }
            return n;
        }

        /** For each column of a needle its pass, by looking at all dots struck before it. */
        int[] passes(int l, int needle, int byRest) {
            int[] pass = new int[24];
            Arrays.fill(pass, NONE);
            for (int c = 0; c < 24; c++) {
                if (dot(l, needle, c)) {
                    int p = 0;
                    while (tooNear(pass, p, c, byRest)) {
                        p++;
                    }
                    pass[c] = p;
                }
            }
            return pass;
        }

        private static boolean tooNear(int[] pass, int p, int c, int byRest) {
            for (int d = 0; d < c; d++) {
                if (pass[d] == p && c - d <= byRest) {
                    return true;
                }
            }
            return false;
        }

        int howMany(int l, int byRest) {
            int most = -1;
            for (int k = 0; k < 8; k++) {
                for (int p : passes(l, k, byRest)) {
                    most = Math.max(most, p);
                }
            }
            return most + 1;
        }

        int[] span(int l, int p) {
            List<Integer> heads = new ArrayList<>();
            for (int k = 0; k < 8; k++) {
                int[] pass = passes(l, k, rest);
                for (int c = 0; c < 24; c++) {
                    if (pass[c] == p) {
                        heads.add(k % 2 == 0 ? c : c - stagger);
                    }
                }
            }
            heads.sort(null);
            return new int[] {heads.get(0), heads.get(heads.size() - 1)};
        }
    }

    /** A way so far: where it ends, what it costs, and which ends it took, as a text that compares. */
    private record Path(int end, int seeks, int strokes, String turns) {
        Path over(int[] span, boolean rightward) {
            int from = rightward ? span[0] : span[1];
            int to = rightward ? span[1] : span[0];
            return new Path(to, seeks + Math.abs(end - from), strokes + span[1] - span[0], turns + (rightward ? "0" : "1"));
        }

        boolean isBetterThan(Path other) {
            return other == null || seeks < other.seeks || seeks == other.seeks && turns.compareTo(other.turns) < 0;
        }
    }

    private static final class Model {
        Book book = new Book();
        StringBuilder text = new StringBuilder();
        ArrayDeque<Book> before = new ArrayDeque<>();
        List<int[]> seen = new ArrayList<>();
        Book[] images = new Book[2];

        int type(int letter) {
            if (letter < 0 || letter > 255) return BAD;
            if (text.length() == 120) return FULL;
            text.append((char) letter);
            return text.length();
        }

        int clear() {
            int n = text.length();
            text.setLength(0);
            return n;
        }

        int page() {
            Book told = new Book();
            int items = 0;
            String left = "";
            Matcher tokens = Pattern.compile("[0-9]+|[^ ]", Pattern.DOTALL).matcher(text);
            while (tokens.find()) {
                String token = tokens.group();
                String next = left + (left.isEmpty() ? "" : " ") + token;
                if (!mayBegin(next) || next.equals("l") && told.lines.size() == 4) return -10 - tokens.start();
                left = next;
                if (token.equals(";")) {
                    take(told, left.split(" "));
                    items++;
                    left = "";
                }
            }
            if (!left.isEmpty()) return -10 - text.length();
            book = told;
            text.setLength(0);
            before.clear();
            seen.clear();
            images = new Book[2];
            return items;
        }

        private static final String SMALL = "(0|[1-9][0-9]?|1[0-9][0-9]|2[0-4][0-9]|25[0-5])";
        private static final Pattern BEGINNING = Pattern.compile(
            "g( [0-4]( ;)?)?|r( [0-9]( ;)?)?|n( ([1-9]|[1-6][0-9]|7[0-2])( ;)?)?"
            + "|d( [a-f]( " + SMALL + "( " + SMALL + "( " + SMALL + "( ;)?)?)?)?)?"
            + "|l( [a-f.]){0,8}( ;)?");

        private static boolean mayBegin(String item) {
            return BEGINNING.matcher(item).matches();
        }

        private static void take(Book told, String[] item) {
            switch (item[0]) {
                case "g" -> told.stagger = Integer.parseInt(item[1]);
                case "r" -> told.rest = Integer.parseInt(item[1]);
                case "n" -> told.feed = Integer.parseInt(item[1]);
                case "d" -> {
                    for (int i = 0; i < 3; i++) {
                        told.letters["abcdef".indexOf(item[1])][i] = Integer.parseInt(item[2 + i]);
                    }
                }
                default -> {
                    List<Integer> line = new ArrayList<>();
                    for (int i = 1; i < item.length - 1; i++) {
                        line.add("abcdef.".indexOf(item[i]));
                    }
                    told.lines.add(line);
                }
            }
        }

        int letter(int x, int column) {
            return x < 0 || x > 5 || column < 0 || column > 2 ? BAD : book.letters[x][column];
        }

        int line(int l, int k) {
            if (!book.has(l) || k < -1 || k >= book.lines.get(l).size()) return BAD;
            return k == -1 ? book.lines.get(l).size() : book.lines.get(l).get(k);
        }

        int dots(int l, int column) {
            return !book.has(l) || column < 0 || column > 23 ? BAD : book.dots(l, column);
        }

        private void remember() {
            before.addLast(book.copy());
            if (before.size() > 10) before.removeFirst();
        }

        int draws(int x, int column, int dots) {
            int was = letter(x, column);
            if (was == BAD || dots < 0 || dots > 255) return BAD;
            if (was == dots) return STATE;
            remember();
            book.letters[x][column] = dots;
            return was;
        }

        int types(int l, int sign) {
            if (l < 0 || l > book.lines.size() || sign < 0 || sign > 6) return BAD;
            if (l == 4 || book.has(l) && book.lines.get(l).size() == 8) return FULL;
            remember();
            if (l == book.lines.size()) book.lines.add(new ArrayList<>());
            book.lines.get(l).add(sign);
            return book.lines.get(l).size();
        }

        int strikes(int l) {
            if (!book.has(l)) return BAD;
            if (book.lines.get(l).isEmpty()) return STATE;
            remember();
            return book.lines.get(l).remove(book.lines.get(l).size() - 1);
        }

        int sets(int what, int v) {
            switch (what) {
                case 0: if (v < 0 || v > 4) return BAD; break;
                case 1: if (v < 0 || v > 9) return BAD; break;
                case 2: if (v < 1 || v > 72) return BAD; break;
                default: return BAD;
            }
            int was = what == 0 ? book.stagger : what == 1 ? book.rest : book.feed;
            if (was == v) return STATE;
            remember();
            if (what == 0) book.stagger = v;
            if (what == 1) book.rest = v;
            if (what == 2) book.feed = v;
            return was;
        }

        int undo() {
            if (before.isEmpty()) return STATE;
            book = before.removeLast();
            return before.size();
        }

        int passes(int l) {
            return book.has(l) ? book.howMany(l, book.rest) : BAD;
        }

        private boolean isPlace(int l, int needle, int column) {
            return book.has(l) && needle >= 0 && needle < 8 && column >= 0 && column < 24;
        }

        int pass(int l, int needle, int column) {
            return isPlace(l, needle, column) ? book.passes(l, needle, book.rest)[column] : BAD;
        }

        int span(int l, int pass, int what) {
            if (!book.has(l) || pass < 0 || pass >= passes(l) || what < 0 || what > 1) return NO;
            return book.span(l, pass)[what];
        }

        /** All ways are tried while they are few; then the best to either end of the latest pass goes on. */
        private Path best() {
            List<Path> paths = List.of(new Path(0, 0, 0, ""));
            for (int l = 0; l < book.lines.size(); l++) {
                int many = passes(l);
                for (int p = 0; p < many; p++) {
                    int[] span = book.span(l, p);
                    List<Path> rightward = new ArrayList<>();
                    List<Path> leftward = new ArrayList<>();
                    for (Path path : paths) {
                        rightward.add(path.over(span, true));
                        leftward.add(path.over(span, false));
                    }
                    boolean few = paths.size() <= 32;
                    paths = new ArrayList<>(few ? rightward : List.of(bestOf(rightward)));
                    paths.addAll(few ? leftward : List.of(bestOf(leftward)));
                }
            }
            return bestOf(paths);
        }

        private static Path bestOf(List<Path> paths) {
            Path best = null;
            for (Path path : paths) {
                best = path.isBetterThan(best) ? path : best;
            }
            return best;
        }

        int goes(int l, int pass) {
            if (!book.has(l) || pass < 0) return BAD;
            if (pass >= passes(l)) return NONE;
            int at = pass;
            for (int i = 0; i < l; i++) {
                at += passes(i);
            }
            return best().turns().charAt(at) - '0';
        }

        int stands(int l, int needle, int column) {
            if (!isPlace(l, needle, column) || !book.dot(l, needle, column)) return NO;
            return needle % 2 == 0 ? column : column - book.stagger;
        }

        int way(int what) {
            if (what < 0 || what > 2) return NO;
            Path best = best();
            return what == 0 ? best.seeks() : what == 1 ? best.seeks() + best.strokes() : best.end();
        }

        int wear(int needle) {
            if (needle < 0 || needle > 7) return BAD;
            int n = 0;
            for (int l = 0; l < book.lines.size(); l++) {
                n += book.amount(l, needle);
            }
            return n;
        }

        int crowd(int l, int what) {
            if (!book.has(l) || what < 0 || what > 2) return BAD;
            int[] best = {0, NONE, NONE};
            for (int k = 7; k >= 0; k--) {
                for (int c = 23 - book.rest; c >= 0; c--) {
                    int n = 0;
                    for (int d = c; d <= c + book.rest; d++) {
                        n += book.dot(l, k, d) ? 1 : 0;
                    }
                    if (n > 0 && n >= best[0]) best = new int[] {n, k, c};
                }
            }
            return best[what];
        }

        int easy(int l) {
            if (!book.has(l)) return BAD;
            int rest = 9;
            while (book.howMany(l, rest) > 1) {
                rest--;
            }
            return rest;
        }

        int place(int l, int what) {
            if (!book.has(l) || what < 0 || what > 2) return BAD;
            int upper = book.feed * l;
            int whole = 0;
            while (upper >= 72) {
                upper -= 72;
                whole++;
            }
            int lower = 72;
            for (int prime : new int[] {2, 2, 2, 3, 3}) {
                if (upper % prime == 0 && lower % prime == 0) {
                    upper /= prime;
                    lower /= prime;
                }
            }
            return what == 0 ? whole : what == 1 ? upper : lower;
        }

        int sees(int l, int n) {
            if (!book.has(l) || n < 0 || n > 192) return BAD;
            if (seen.size() == 6) return FULL;
            seen.add(new int[] {l, n});
            return seen.size();
        }

        int forget() {
            int n = seen.size();
            seen.clear();
            return n;
        }

        int unseen() {
            int bits = 0;
            for (int k = 0; k < 8; k++) {
                boolean so = true;
                for (int[] s : seen) {
                    so = so && book.has(s[0]) && book.total(s[0]) - book.amount(s[0], k) == s[1];
                }
                bits += so ? 1 << k : 0;
            }
            return bits;
        }

        int ask() {
            int bits = unseen();
            if (Integer.bitCount(bits) < 2) return NONE;
            int best = NONE;
            int most = 0;
            for (int l = 0; l < book.lines.size(); l++) {
                Set<Integer> numbers = new HashSet<>();
                for (int k = 0; k < 8; k++) {
                    if ((bits & 1 << k) != 0) numbers.add(book.total(l) - book.amount(l, k));
                }
                if (numbers.size() > most) {
                    most = numbers.size();
                    best = l;
                }
            }
            return best;
        }

        int keep(int image) {
            if (image != 0 && image != 1) return BAD;
            images[image] = book.copy();
            return book.lines.size();
        }

        int back(int image) {
            if (image != 0 && image != 1) return BAD;
            if (images[image] == null) return STATE;
            book = images[image].copy();
            before.clear();
            return book.lines.size();
        }

        int count(int what) {
            int dots = 0;
            int passes = 0;
            for (int l = 0; l < book.lines.size(); l++) {
                dots += book.total(l);
                passes += passes(l);
            }
            int[] counts = {book.lines.size(), dots, passes, book.stagger, book.rest, book.feed, seen.size(), text.length(), before.size()};
            return what < 0 || what > 8 ? BAD : counts[what];
        }
    }

    private static int calls = 0;
    private static int wrong = 0;

    private static void due(int run, String call, int got, int want) {
        calls++;
        if (got != want) {
            wrong++;
            if (wrong <= 20) {
                System.out.println("run " + run + ": " + call + " answered " + got + ", the model " + want);
            }
        }
    }

    private static String number(Draw draw, int most) {
        int kind = draw.below(60);
        if (kind == 0) return "0" + draw.below(10);
        if (kind == 1) return String.valueOf(most + 1 + draw.below(2000));
        if (kind == 2) return "123456789012345678901234567890".substring(0, 3 + draw.below(27));
        return String.valueOf(draw.below(most + 1));
    }

    private static String item(Draw draw, int kind) {
        String blank = draw.below(5) == 0 ? " " : "";
        switch (kind) {
            case 0: return "g" + blank + number(draw, 4) + blank + ";";
            case 1: return "r" + blank + number(draw, 9) + blank + ";";
            case 2: return blank + "n" + number(draw, 72) + ";";
            case 3: case 4: case 5:
                return "d" + blank + "abcdef".charAt(draw.below(6)) + number(draw, 255) + " " + number(draw, 255) + " " + blank + number(draw, 255) + ";";
            default:
                StringBuilder signs = new StringBuilder("l");
                for (int i = draw.below(draw.below(20) == 0 ? 11 : 9); i > 0; i--) {
                    signs.append("abcdef.".charAt(draw.below(7))).append(blank);
                }
                return signs.append(';').toString();
        }
    }

    private static final String ANY = "grndlabcdef.;0123456789 hGD`:/\t\0\u00ff";

    private static String text(Draw draw) {
        StringBuilder text = new StringBuilder();
        int lines = 0;
        for (int i = draw.below(10); i > 0; i--) {
            int kind = draw.below(9);
            lines += kind > 5 ? 1 : 0;
            if (lines <= 4 || draw.below(10) == 0) text.append(item(draw, kind));
        }
        if (draw.below(8) == 0 && text.length() > 0) {
            text.setCharAt(draw.below(text.length()), ANY.charAt(draw.below(ANY.length())));
        }
        if (draw.below(12) == 0 && text.length() > 0) text.setLength(draw.below(text.length()));
        if (text.length() > 120) text.setLength(text.lastIndexOf(";", 119) + 1);
        return text.toString();
    }

    private static int tell(int run, Draw draw, StrikePasses x, Model m) {
        String text = text(draw);
        for (int i = 0; i < text.length(); i++) {
            due(run, "type", x.type(text.charAt(i)), m.type(text.charAt(i)));
        }
        due(run, "page() of \"" + text + "\"", x.page(), m.page());
        due(run, "clear()", x.clear(), m.clear());
        return text.length() + 2;
    }

    private static void change(int run, Draw draw, StrikePasses x, Model m) {
        int l = draw.about(0, Math.max(0, m.book.lines.size()));
        int a = draw.about(0, 5);
        int b = draw.about(0, 2);
        switch (draw.below(11)) {
            case 0: case 1: case 2: {
                int dots = draw.below(3) == 0 ? draw.about(0, 255) : 1 << draw.below(8);
                due(run, "draws(" + a + ", " + b + ", " + dots + ")", x.draws(a, b, dots), m.draws(a, b, dots));
                break;
            }
            case 3: case 4: case 5: case 6: {
                int sign = draw.about(0, 6);
                due(run, "types(" + l + ", " + sign + ")", x.types(l, sign), m.types(l, sign));
                break;
            }
            case 7: due(run, "strikes(" + l + ")", x.strikes(l), m.strikes(l)); break;
            case 8: {
                int v = draw.about(0, b == 0 ? 4 : b == 1 ? 9 : 72);
                due(run, "sets(" + b + ", " + v + ")", x.sets(b, v), m.sets(b, v));
                break;
            }
            case 9: due(run, "undo()", x.undo(), m.undo()); break;
            default: {
                int image = draw.about(0, 1);
                if (draw.below(3) != 0) due(run, "keep(" + image + ")", x.keep(image), m.keep(image));
                else due(run, "back(" + image + ")", x.back(image), m.back(image));
            }
        }
    }

    private static void lookAtLine(int run, Draw draw, StrikePasses x, Model m) {
        int l = draw.about(0, Math.max(0, m.book.lines.size() - 1));
        int needle = draw.about(0, 7);
        int column = draw.below(2) == 0 ? draw.about(0, 23) : draw.about(0, 6);
        int pass = draw.below(4) == 0 ? draw.about(0, 9) : draw.about(0, 1);
        int what = draw.about(0, 2);
        String at = "(" + l + ", " + needle + ", " + column + ") pass " + pass + " what " + what;
        switch (draw.below(11)) {
            case 0: due(run, "line" + at, x.line(l, what - 1), m.line(l, what - 1)); break;
            case 1: due(run, "dots" + at, x.dots(l, column), m.dots(l, column)); break;
            case 2: due(run, "passes" + at, x.passes(l), m.passes(l)); break;
            case 3: due(run, "pass" + at, x.pass(l, needle, column), m.pass(l, needle, column)); break;
            case 4: due(run, "span" + at, x.span(l, pass, what), m.span(l, pass, what)); break;
            case 5: case 6: due(run, "goes" + at, x.goes(l, pass), m.goes(l, pass)); break;
            case 7: due(run, "stands" + at, x.stands(l, needle, column), m.stands(l, needle, column)); break;
            case 8: due(run, "crowd" + at, x.crowd(l, what), m.crowd(l, what)); break;
            case 9: due(run, "easy" + at, x.easy(l), m.easy(l)); break;
            default: due(run, "place" + at, x.place(l, what), m.place(l, what)); break;
        }
    }

    /** Numbers that some needle would make so, or all that is seen would soon be impossible. */
    private static int likelyNumber(Draw draw, Model m, int l) {
        if (!m.book.has(l) || draw.below(4) == 0) return draw.about(0, 192);
        return m.book.total(l) - m.book.amount(l, draw.below(2));
    }

    private static void lookAtAll(int run, Draw draw, StrikePasses x, Model m) {
        int l = draw.about(0, Math.max(0, m.book.lines.size() - 1));
        switch (draw.below(9)) {
            case 0: case 1: { int what = draw.about(0, 2); due(run, "way(" + what + ")", x.way(what), m.way(what)); break; }
            case 2: { int k = draw.about(0, 7); due(run, "wear(" + k + ")", x.wear(k), m.wear(k)); break; }
            case 3: { int n = likelyNumber(draw, m, l); due(run, "sees(" + l + ", " + n + ")", x.sees(l, n), m.sees(l, n)); break; }
            case 4: {
                if (draw.below(3) == 0) due(run, "forget()", x.forget(), m.forget());
                else { int a = draw.about(0, 5), b = draw.about(0, 2); due(run, "letter(" + a + ", " + b + ")", x.letter(a, b), m.letter(a, b)); }
                break;
            }
            case 5: due(run, "unseen()", x.unseen(), m.unseen()); break;
            case 6: due(run, "ask()", x.ask(), m.ask()); break;
            case 7: { int c = draw.about(0, 255); if (draw.below(8) == 0) due(run, "type(" + c + ")", x.type(c), m.type(c)); break; }
            default: { int what = draw.about(0, 8); due(run, "count(" + what + ")", x.count(what), m.count(what)); break; }
        }
    }

    private static void run(int run) {
        Draw draw = new Draw(run);
        StrikePasses x = new StrikePasses();
        Model m = new Model();
        int most = 5 + draw.below(30);
        int made = run % 3 == 0 ? 0 : tell(run, draw, x, m);
        while (made < CALLS - 125) {
            int kind = draw.below(100);
            if (kind == 0 && draw.below(3) == 0) made += tell(run, draw, x, m);
            else if (kind < most) change(run, draw, x, m);
            else if (kind % 2 == 0) lookAtLine(run, draw, x, m);
            else lookAtAll(run, draw, x, m);
            made++;
        }
    }

    public static void main(String[] args) {
        for (int run = 1; run <= RUNS; run++) {
            run(run);
        }
        System.out.println(calls - wrong + " answers as the model's, " + wrong + " not");
        if (wrong != 0) {
            System.exit(1);
        }
    }
}
