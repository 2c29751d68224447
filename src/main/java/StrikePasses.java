import java.util.Arrays;

/**
 * A print head of needles over a page of lines. All rows are made with the object and used again,
 * because every call of a run shares one room: no call makes anything.
 */
public final class StrikePasses {
    public static final int BAD = -1, STATE = -2, FULL = -3, NONE = -9;
    public static final int NO = -1000000;

    private static final int NEEDLES = 8;
    private static final int LETTERS = 6;
    private static final int WIDTH = 3;
    private static final int MOST_DOTS = 255;
    private static final int LINES = 4;
    private static final int SIGNS = 8;
    private static final int BLANK = 6;
    private static final int COLUMNS = SIGNS * WIDTH;

    private static final int STAGGER = 0;
    private static final int REST = 1;
    private static final int FEED = 2;
    private static final int SETTINGS = 3;
    private static final int[] AT_FIRST = {2, 1, 12};
    private static final int[] LEAST = {0, 0, 1};
    private static final int[] GREATEST = {4, 9, 72};

    private static final int MOST_REST = 9;
    /** A needle that has rested REST columns is free again, so no line needs more than these. */
    private static final int PASSES = MOST_REST + 1;
    private static final int ALL_PASSES = LINES * PASSES;

    private static final int TEXT = 120;
    private static final int FAULTS = -10;
    private static final int DEEDS = 10;
    private static final int SIGHTS = 6;
    private static final int IMAGES = 2;
    private static final int INCH = 72;

    private final Reader reader = new Reader();
    private final Sheet sheet = new Sheet();
    /** What a text tells is read into this one, so that a fault leaves the sheet as it is. */
    private final Sheet draft = new Sheet();
    private final Deeds deeds = new Deeds();
    private final Sights sights = new Sights();
    private final Sheet[] images = new Sheet[IMAGES];
    private final boolean[] kept = new boolean[IMAGES];
    private final Strip strip = new Strip();
    private final Dealer dealer = new Dealer();
    private final Course course = new Course();

    public StrikePasses() {
        for (int i = 0; i < IMAGES; i++) {
            images[i] = new Sheet();
        }
    }

    // ---- the page

    public int type(int letter) {
        if (letter < 0 || letter > 255) {
            return BAD;
        }
        return reader.accept(letter) ? reader.length : FULL;
    }

    public int clear() {
        int had = reader.length;
        reader.length = 0;
        return had;
    }

    public int page() {
        int items = reader.read(draft);
        if (items < 0) {
            return items;
        }
        sheet.become(draft);
        reader.length = 0;
        deeds.known = 0;
        sights.known = 0;
        for (int i = 0; i < IMAGES; i++) {
            kept[i] = false;
        }
        return items;
    }

    public int letter(int x, int column) {
        return isColumnOfLetter(x, column) ? sheet.shapes[x * WIDTH + column] : BAD;
    }

    public int line(int l, int k) {
        if (!sheet.hasLine(l) || k < -1 || k >= sheet.lengths[l]) {
            return BAD;
        }
        return k == -1 ? sheet.lengths[l] : sheet.signs[l * SIGNS + k];
    }

    public int dots(int l, int column) {
        return sheet.hasLine(l) && isColumn(column) ? sheet.inkAt(l, column) : BAD;
    }

    // ---- what is done

    public int draws(int x, int column, int dots) {
        if (!isColumnOfLetter(x, column) || dots < 0 || dots > MOST_DOTS) {
            return BAD;
        }
        int at = x * WIDTH + column;
        int was = sheet.shapes[at];
        if (was == dots) {
            return STATE;
        }
        sheet.shapes[at] = dots;
        deeds.note(Deeds.DRAWN, at, was);
        return was;
    }

    public int types(int l, int sign) {
        if (l < 0 || l > sheet.lines || sign < 0 || sign > BLANK) {
            return BAD;
        }
        boolean fresh = l == sheet.lines;
        if (fresh && !sheet.begin()) {
            return FULL;
        }
        if (!sheet.append(l, sign)) {
            return FULL;
        }
        deeds.note(fresh ? Deeds.BEGUN : Deeds.TYPED, l, sign);
        return sheet.lengths[l];
    }

    public int strikes(int l) {
        if (!sheet.hasLine(l)) {
            return BAD;
        }
        int sign = sheet.chop(l);
        if (sign == NONE) {
            return STATE;
        }
        deeds.note(Deeds.STRUCK, l, sign);
        return sign;
    }

    public int sets(int what, int v) {
        if (!mayBeSet(what, v)) {
            return BAD;
        }
        int was = sheet.settings[what];
        if (was == v) {
            return STATE;
        }
        sheet.settings[what] = v;
        deeds.note(Deeds.SET, what, was);
        return was;
    }

    public int undo() {
        return deeds.takeBack(sheet) ? deeds.known : STATE;
    }

    // ---- passes

    public int passes(int l) {
        return sheet.hasLine(l) ? passesOf(l) : BAD;
    }

    public int pass(int l, int needle, int column) {
        if (!isPlace(l, needle, column)) {
            return BAD;
        }
        strip.lay(sheet, l);
        dealer.deal(strip, sheet.settings[REST], needle);
        return dealer.passAt[column];
    }

    public int span(int l, int pass, int what) {
        if (!sheet.hasLine(l) || pass < 0 || what < 0 || what > 1) {
            return NO;
        }
        course.measure(l, sheet, strip, dealer);
        int at = course.slot(l, pass);
        if (at < 0) {
            return NO;
        }
        return what == 0 ? course.left[at] : course.right[at];
    }

    public int goes(int l, int pass) {
        if (!sheet.hasLine(l) || pass < 0) {
            return BAD;
        }
        course.plan(sheet, strip, dealer);
        int at = course.slot(l, pass);
        return at < 0 ? NONE : course.turns[at];
    }

    public int stands(int l, int needle, int column) {
        if (!isPlace(l, needle, column)) {
            return NO;
        }
        strip.lay(sheet, l);
        return strip.hasDot(needle, column) ? sheet.headAt(needle, column) : NO;
    }

    public int way(int what) {
        if (what < 0 || what > 2) {
            return NO;
        }
        course.plan(sheet, strip, dealer);
        if (what == 0) {
            return course.seeks;
        }
        return what == 1 ? course.seeks + course.strokes : course.end;
    }

    // ---- wear, crowds

    public int wear(int needle) {
        if (!isNeedle(needle)) {
            return BAD;
        }
        int sum = 0;
        for (int l = 0; l < sheet.lines; l++) {
            strip.lay(sheet, l);
            sum += strip.amount(needle);
        }
        return sum;
    }

    public int crowd(int l, int what) {
        if (!sheet.hasLine(l) || what < 0 || what > 2) {
            return BAD;
        }
        strip.lay(sheet, l);
        int most = 0;
        int needle = NONE;
        int column = NONE;
        for (int k = 0; k < NEEDLES; k++) {
            for (int c = 0; c < COLUMNS; c++) {
                int n = strip.amountFrom(k, c, sheet.settings[REST] + 1);
                if (n > most) {
                    most = n;
                    needle = k;
                    column = c;
                }
            }
        }
        if (what == 0) {
            return most;
        }
        return what == 1 ? needle : column;
    }

    public int easy(int l) {
        if (!sheet.hasLine(l)) {
            return BAD;
        }
        strip.lay(sheet, l);
        int rest = MOST_REST;
        for (int k = 0; k < NEEDLES; k++) {
            rest = Math.min(rest, strip.leastGap(k) - 1);
        }
        return rest;
    }

    public int place(int l, int what) {
        if (!sheet.hasLine(l) || what < 0 || what > 2) {
            return BAD;
        }
        int fed = sheet.settings[FEED] * l;
        if (what == 0) {
            return fed / INCH;
        }
        int left = fed % INCH;
        int divisor = INCH;
        while (divisor > 1 && (left % divisor != 0 || INCH % divisor != 0)) {
            divisor--;
        }
        return what == 1 ? left / divisor : INCH / divisor;
    }

    // ---- which needle

    public int sees(int l, int n) {
        if (!sheet.hasLine(l) || n < 0 || n > NEEDLES * COLUMNS) {
            return BAD;
        }
        return sights.note(l, n) ? sights.known : FULL;
    }

    public int forget() {
        int were = sights.known;
        sights.known = 0;
        return were;
    }

    public int unseen() {
        return suspects();
    }

    public int ask() {
        int suspects = suspects();
        if (Integer.bitCount(suspects) < 2) {
            return NONE;
        }
        int best = NONE;
        int most = 0;
        for (int l = 0; l < sheet.lines; l++) {
            int unlike = unlikeNumbers(l, suspects);
            if (unlike > most) {
                most = unlike;
                best = l;
            }
        }
        return best;
    }

    // ---- images

    public int keep(int image) {
        if (image < 0 || image >= IMAGES) {
            return BAD;
        }
        images[image].become(sheet);
        kept[image] = true;
        return sheet.lines;
    }

    public int back(int image) {
        if (image < 0 || image >= IMAGES) {
            return BAD;
        }
        if (!kept[image]) {
            return STATE;
        }
        sheet.become(images[image]);
        deeds.known = 0;
        return sheet.lines;
    }

    public int count(int what) {
        switch (what) {
            case 0: return sheet.lines;
            case 1: return allDots();
            case 2: return allPasses();
            case 3: return sheet.settings[STAGGER];
            case 4: return sheet.settings[REST];
            case 5: return sheet.settings[FEED];
            case 6: return sights.known;
            case 7: return reader.length;
            case 8: return deeds.known;
            default: return BAD;
        }
    }

    // ---- what the calls share

    private static boolean isNeedle(int needle) {
        return needle >= 0 && needle < NEEDLES;
    }

    private static boolean isColumn(int column) {
        return column >= 0 && column < COLUMNS;
    }

    private static boolean isColumnOfLetter(int x, int column) {
        return x >= 0 && x < LETTERS && column >= 0 && column < WIDTH;
    }

    private static boolean mayBeSet(int what, int v) {
        return what >= 0 && what < SETTINGS && v >= LEAST[what] && v <= GREATEST[what];
    }

    private boolean isPlace(int l, int needle, int column) {
        return sheet.hasLine(l) && isNeedle(needle) && isColumn(column);
    }

    private int passesOf(int l) {
        strip.lay(sheet, l);
        int most = 0;
        for (int k = 0; k < NEEDLES; k++) {
            most = Math.max(most, dealer.deal(strip, sheet.settings[REST], k));
        }
        return most;
    }

    private int allPasses() {
        int sum = 0;
        for (int l = 0; l < sheet.lines; l++) {
            sum += passesOf(l);
        }
        return sum;
    }

    private int allDots() {
        int sum = 0;
        for (int l = 0; l < sheet.lines; l++) {
            strip.lay(sheet, l);
            sum += strip.total();
        }
        return sum;
    }

    /** The needles (bits) of which each, if it were the stuck one, would explain all that was seen. */
    private int suspects() {
        int bits = (1 << NEEDLES) - 1;
        for (int i = 0; i < sights.known; i++) {
            bits &= explaining(sights.lines[i], sights.numbers[i]);
        }
        return bits;
    }

    private int explaining(int l, int n) {
        if (!sheet.hasLine(l)) {
            return 0;
        }
        strip.lay(sheet, l);
        int total = strip.total();
        int bits = 0;
        for (int k = 0; k < NEEDLES; k++) {
            if (total - strip.amount(k) == n) {
                bits |= 1 << k;
            }
        }
        return bits;
    }

    /** A line's total is the same for all needles, so the numbers are unlike where the needles' own are. */
    private int unlikeNumbers(int l, int suspects) {
        strip.lay(sheet, l);
        int amounts = 0;
        for (int k = 0; k < NEEDLES; k++) {
            if ((suspects >> k & 1) == 1) {
                amounts |= 1 << strip.amount(k);
            }
        }
        return Integer.bitCount(amounts);
    }

    /** All that a text tells: settings, letters and lines. */
    private static final class Sheet {
        final int[] settings = new int[SETTINGS];
        final int[] shapes = new int[LETTERS * WIDTH];
        final int[] lengths = new int[LINES];
        final int[] signs = new int[LINES * SIGNS];
        int lines;

        Sheet() {
            reset();
        }

        void reset() {
            for (int i = 0; i < SETTINGS; i++) {
                settings[i] = AT_FIRST[i];
            }
            Arrays.fill(shapes, 0);
            lines = 0;
        }

        void become(Sheet other) {
            System.arraycopy(other.settings, 0, settings, 0, SETTINGS);
            System.arraycopy(other.shapes, 0, shapes, 0, LETTERS * WIDTH);
            System.arraycopy(other.lengths, 0, lengths, 0, LINES);
            System.arraycopy(other.signs, 0, signs, 0, LINES * SIGNS);
            lines = other.lines;
        }

        boolean hasLine(int l) {
            return l >= 0 && l < lines;
        }

        boolean begin() {
            if (lines >= LINES) {
                return false;
            }
            lengths[lines] = 0;
            lines++;
            return true;
        }

        void dropLast() {
            if (lines > 0) {
                lines--;
            }
        }

        boolean append(int l, int sign) {
            if (!hasLine(l) || lengths[l] >= SIGNS) {
                return false;
            }
            signs[l * SIGNS + lengths[l]] = sign;
            lengths[l]++;
            return true;
        }

        /** The sign that goes; NONE if the line is empty. */
        int chop(int l) {
            if (!hasLine(l) || lengths[l] <= 0) {
                return NONE;
            }
            lengths[l]--;
            return signs[l * SIGNS + lengths[l]];
        }

        int inkAt(int l, int column) {
            if (!hasLine(l) || column < 0 || column >= lengths[l] * WIDTH) {
                return 0;
            }
            int sign = signs[l * SIGNS + column / WIDTH];
            if (sign < 0 || sign >= LETTERS) {
                return 0;
            }
            return shapes[sign * WIDTH + column % WIDTH];
        }

        int headAt(int needle, int column) {
            return needle % 2 == 0 ? column : column - settings[STAGGER];
        }
    }

    /** The text, and how it is read: token by token from the left, so that the first fault is the one told. */
    private static final class Reader {
        static final int END = -1;
        static final int NUMBER = -2;
        static final int WRONG = -3;
        static final int MOST_NUMBER = 999;

        final int[] text = new int[TEXT];
        int length;
        int at;
        int start;
        /** The token's letter, or END, NUMBER, WRONG. A letter that is no token stands nowhere: it needs no kind. */
        int kind;
        int value;

        boolean accept(int letter) {
            if (length >= TEXT) {
                return false;
            }
            text[length] = letter;
            length++;
            return true;
        }

        /** How many items, or -10 less the fault. */
        int read(Sheet target) {
            target.reset();
            at = 0;
            for (int items = 0; items <= TEXT; items++) {
                advance();
                if (kind == END) {
                    return items;
                }
                if (!readItem(target)) {
                    break;
                }
            }
            return FAULTS - start;
        }

        boolean readItem(Sheet target) {
            switch (kind) {
                case 'g': return readSetting(target, STAGGER);
                case 'r': return readSetting(target, REST);
                case 'n': return readSetting(target, FEED);
                case 'd': return readShape(target);
                case 'l': return readLine(target);
                default: return false;
            }
        }

        boolean readSetting(Sheet target, int what) {
            advance();
            if (kind != NUMBER || !mayBeSet(what, value)) {
                return false;
            }
            target.settings[what] = value;
            advance();
            return kind == ';';
        }

        boolean readShape(Sheet target) {
            advance();
            int x = letterOf(kind);
            if (x == NONE) {
                return false;
            }
            for (int column = 0; column < WIDTH; column++) {
                advance();
                if (kind != NUMBER || value > MOST_DOTS) {
                    return false;
                }
                target.shapes[x * WIDTH + column] = value;
            }
            advance();
            return kind == ';';
        }

        boolean readLine(Sheet target) {
            if (!target.begin()) {
                return false;
            }
            for (int k = 0; k <= SIGNS; k++) {
                advance();
                if (kind == ';') {
                    return true;
                }
                int sign = kind == '.' ? BLANK : letterOf(kind);
                if (sign == NONE || !target.append(target.lines - 1, sign)) {
                    return false;
                }
            }
            return false;
        }

        static int letterOf(int kind) {
            return kind >= 'a' && kind <= 'f' ? kind - 'a' : NONE;
        }

        void advance() {
            while (at < length && text[at] == ' ') {
                at++;
            }
            start = at;
            if (at >= length) {
                kind = END;
            } else if (isDigit(text[at])) {
                advanceOverNumber();
            } else {
                kind = text[at];
                at++;
            }
        }

        void advanceOverNumber() {
            boolean zeroAhead = text[at] == '0';
            value = 0;
            while (at < length && isDigit(text[at])) {
                if (value <= MOST_NUMBER) {
                    value = value * 10 + text[at] - '0';
                }
                at++;
            }
            boolean wrong = value > MOST_NUMBER || zeroAhead && at - start > 1;
            kind = wrong ? WRONG : NUMBER;
        }

        static boolean isDigit(int letter) {
            return letter >= '0' && letter <= '9';
        }
    }

    /** What was done last, each deed with what brings it back. */
    private static final class Deeds {
        static final int DRAWN = 0;
        static final int TYPED = 1;
        static final int BEGUN = 2;
        static final int STRUCK = 3;
        static final int SET = 4;

        final int[] kinds = new int[DEEDS];
        final int[] places = new int[DEEDS];
        final int[] were = new int[DEEDS];
        int known;

        void note(int kind, int where, int was) {
            if (known >= DEEDS) {
                loseOldest();
            }
            kinds[known] = kind;
            places[known] = where;
            were[known] = was;
            known++;
        }

        void loseOldest() {
            known = DEEDS - 1;
            System.arraycopy(kinds, 1, kinds, 0, known);
            System.arraycopy(places, 1, places, 0, known);
            System.arraycopy(were, 1, were, 0, known);
        }

        boolean takeBack(Sheet sheet) {
            if (known <= 0) {
                return false;
            }
            known--;
            int where = places[known];
            int was = were[known];
            switch (kinds[known]) {
                case DRAWN: sheet.shapes[where] = was; break;
                case TYPED: sheet.chop(where); break;
                case BEGUN: sheet.dropLast(); break;
                case STRUCK: sheet.append(where, was); break;
                default: sheet.settings[where] = was; break;
            }
            return true;
        }
    }

    /** What was seen: a line, and how many dots it had. */
    private static final class Sights {
        final int[] lines = new int[SIGHTS];
        final int[] numbers = new int[SIGHTS];
        int known;

        boolean note(int l, int n) {
            if (known >= SIGHTS) {
                return false;
            }
            lines[known] = l;
            numbers[known] = n;
            known++;
            return true;
        }
    }

    /** The columns of one line side by side, laid out once a call and then looked at needle by needle. */
    private static final class Strip {
        final int[] ink = new int[COLUMNS];

        void lay(Sheet sheet, int l) {
            for (int c = 0; c < COLUMNS; c++) {
                ink[c] = sheet.inkAt(l, c);
            }
        }

        boolean hasDot(int needle, int column) {
            return isColumn(column) && (ink[column] >> needle & 1) == 1;
        }

        int total() {
            int sum = 0;
            for (int c = 0; c < COLUMNS; c++) {
                sum += Integer.bitCount(ink[c]);
            }
            return sum;
        }

        int amount(int needle) {
            return amountFrom(needle, 0, COLUMNS);
        }

        int amountFrom(int needle, int column, int columns) {
            int sum = 0;
            for (int c = column; c < column + columns; c++) {
                if (hasDot(needle, c)) {
                    sum++;
                }
            }
            return sum;
        }

        /** Columns between a needle's two nearest dots; as many as there are, if it has no two. */
        int leastGap(int needle) {
            int least = COLUMNS;
            int last = -COLUMNS;
            for (int c = 0; c < COLUMNS; c++) {
                if (hasDot(needle, c)) {
                    least = Math.min(least, c - last);
                    last = c;
                }
            }
            return least;
        }
    }

    /** Puts the dots of one needle into passes. */
    private static final class Dealer {
        final int[] passAt = new int[COLUMNS];
        /** Dots come from the left, so of each pass only the latest one can be too near. */
        final int[] latest = new int[PASSES];

        /** How many passes the needle needs; passAt has each dot's, NONE where there is no dot. */
        int deal(Strip strip, int rest, int needle) {
            int used = 0;
            for (int c = 0; c < COLUMNS; c++) {
                passAt[c] = NONE;
                if (!strip.hasDot(needle, c)) {
                    continue;
                }
                int pass = 0;
                while (pass < used && c - latest[pass] <= rest) {
                    pass++;
                }
                if (pass < PASSES) {
                    passAt[c] = pass;
                    latest[pass] = c;
                    used = Math.max(used, pass + 1);
                }
            }
            return used;
        }
    }

    /** The spans of all passes and the way of the head over them; pass p of line l has slot l times PASSES and p. */
    private static final class Course {
        final int[] amounts = new int[LINES];
        final int[] left = new int[ALL_PASSES];
        final int[] right = new int[ALL_PASSES];
        final int[] turns = new int[ALL_PASSES];
        /** The least seeks that follow a pass, if it ends at its left or at its right end. */
        final int[] afterLeft = new int[ALL_PASSES];
        final int[] afterRight = new int[ALL_PASSES];
        int seeks;
        int strokes;
        int end;

        /** The slot of a pass; below 0 if there is no such pass. */
        int slot(int l, int pass) {
            return pass < amounts[l] ? l * PASSES + pass : -1;
        }

        boolean isUsed(int slot) {
            return slot % PASSES < amounts[slot / PASSES];
        }

        void measure(int l, Sheet sheet, Strip strip, Dealer dealer) {
            for (int p = 0; p < PASSES; p++) {
                left[l * PASSES + p] = COLUMNS;
                right[l * PASSES + p] = -COLUMNS;
            }
            strip.lay(sheet, l);
            amounts[l] = 0;
            for (int k = 0; k < NEEDLES; k++) {
                int needed = dealer.deal(strip, sheet.settings[REST], k);
                amounts[l] = Math.max(amounts[l], needed);
                for (int c = 0; c < COLUMNS; c++) {
                    if (dealer.passAt[c] >= 0) {
                        widen(l * PASSES + dealer.passAt[c], sheet.headAt(k, c));
                    }
                }
            }
        }

        void widen(int slot, int head) {
            left[slot] = Math.min(left[slot], head);
            right[slot] = Math.max(right[slot], head);
        }

        void plan(Sheet sheet, Strip strip, Dealer dealer) {
            for (int l = 0; l < LINES; l++) {
                amounts[l] = 0;
                if (sheet.hasLine(l)) {
                    measure(l, sheet, strip, dealer);
                }
            }
            lookAhead();
            walk();
        }

        /** From the last pass to the first: what either end of each costs in the whole. */
        void lookAhead() {
            int next = -1;
            for (int i = ALL_PASSES - 1; i >= 0; i--) {
                if (isUsed(i)) {
                    afterLeft[i] = next < 0 ? 0 : leastFrom(left[i], next);
                    afterRight[i] = next < 0 ? 0 : leastFrom(right[i], next);
                    next = i;
                }
            }
        }

        int leastFrom(int head, int slot) {
            return Math.min(fromLeft(head, slot), fromRight(head, slot));
        }

        int fromLeft(int head, int slot) {
            return Math.abs(head - left[slot]) + afterRight[slot];
        }

        int fromRight(int head, int slot) {
            return Math.abs(head - right[slot]) + afterLeft[slot];
        }

        void walk() {
            seeks = 0;
            strokes = 0;
            end = 0;
            for (int i = 0; i < ALL_PASSES; i++) {
                if (isUsed(i)) {
                    boolean rightward = fromLeft(end, i) <= fromRight(end, i);
                    turns[i] = rightward ? 0 : 1;
                    seeks += Math.abs(end - (rightward ? left[i] : right[i]));
                    strokes += right[i] - left[i];
                    end = rightward ? right[i] : left[i];
                }
            }
        }
    }
}
