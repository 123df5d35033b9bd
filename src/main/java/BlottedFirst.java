/**
 * An office that takes the blotter as the original: letters are pressed one over the other on a sheet of
 * twelve cells, and the calls tell what is shown there, what can be read and which letters it may have been.
 * Every row is made when the object is made, so that no call makes anything.
 */
public final class BlottedFirst {
    public static final int UNKNOWN = -1, BAD = -2, LATE = -3, FULL = -4, NONE = -9;

    private static final int MOST_BYTES = 40, LETTER_BYTES = 5, MOST_BYTE = 255;
    private static final int CELLS = 12, ALL_CELLS = 4095, LETTER_CELLS = 4, LETTER_WINDOW = 15;
    private static final int MOST_LETTERS = 6, MOST_SETS = 64;
    private static final int LIGHT = 1, HEAVY = 2, TURNED = 3;
    private static final int MOST_INK = 9, MOST_DAYS = 9, MOST_TIMES = 2;
    private static final int MOST_ACTS = 14, MOST_OVER = 6, SLOTS = 2;
    private static final int MOST_CHOICE = 3, TENTHS = 10, MOST_YEARS = 30;
    // 60 is what every number of letters in one cell, 1 to 6, divides.
    private static final int SHARE_PARTS = 60;
    private static final long SEED_TIMES = 6364136223846793005L, SEED_MORE = 1442695040888963407L;

    private final Text text;
    private final Letters letters;
    private final Sheet sheet;
    private final Sheet trial;
    private final Acts acts;
    private final Over over;
    private final Slots slots;
    private final Times times;
    private long theSeed;

    public BlottedFirst() {
        text = new Text();
        letters = new Letters();
        sheet = new Sheet();
        trial = new Sheet();
        acts = new Acts();
        over = new Over();
        slots = new Slots();
        times = new Times();
        theSeed = 0L;
    }

    // ---- the office

    public int write(int letter) {
        if (letter < 0 || letter > MOST_BYTE) {
            return BAD;
        }
        return text.append(letter) ? text.length : FULL;
    }

    public int wipe() {
        int length = text.length;
        text.length = 0;
        return length;
    }

    public int fault() {
        return text.firstFault();
    }

    public int office() {
        if (text.firstFault() != NONE) {
            return LATE;
        }
        readLetters();
        sheet.renew();
        sheet.date = 0;
        acts.forget();
        slots.forget();
        return letters.count;
    }

    public int about(int what) {
        switch (what) {
            case 0: return letters.count;
            case 1: return sheet.date;
            case 2: return sheet.shownIn(0);
            case 3: return sheet.allInk();
            case 4: return letters.readable(sheet.shownIn(0));
            case 5: return sheet.onTop();
            case 6: return acts.count;
            case 7: return over.count;
            case 8: return text.length;
            default: return BAD;
        }
    }

    public int letter(int letter, int what) {
        if (!letters.has(letter)) {
            return UNKNOWN;
        }
        switch (what) {
            case 0: return letters.placeOf(letter);
            case 1: return letters.handOf(letter);
            case 2: return letters.forceOf(letter);
            case 3: return letters.cellsOf(letter);
            case 4: return letters.canBeRead(letter, sheet.shownIn(0)) ? 1 : 0;
            default: return BAD;
        }
    }

    public int cell(int cell, int what) {
        if (!isCell(cell)) {
            return BAD;
        }
        switch (what) {
            case 0: return sheet.inkAt(cell);
            case 1: return sheet.topAt(cell);
            default: return BAD;
        }
    }

    // ---- acts

    public int press(int letter) {
        if (!letters.has(letter)) {
            return UNKNOWN;
        }
        acts.remember(sheet);
        sheet.addInk(letters.cellsOf(letter), letters.forceOf(letter), letter);
        return Integer.bitCount(sheet.shownIn(0));
    }

    public int day() {
        acts.remember(sheet);
        sheet.dry();
        return sheet.date;
    }

    public int rub(int cell) {
        if (!isCell(cell)) {
            return BAD;
        }
        int ink = sheet.inkAt(cell);
        if (ink == 0) {
            return LATE;
        }
        acts.remember(sheet);
        sheet.clean(cell);
        return ink;
    }

    public int change() {
        int shown = sheet.shownIn(0);
        if (shown == 0) {
            return LATE;
        }
        acts.remember(sheet);
        sheet.renew();
        return Integer.bitCount(shown);
    }

    public int undo() {
        return acts.takeBack(sheet) ? acts.count : LATE;
    }

    // ---- shown

    public int later(int n) {
        return n < 0 || n > MOST_DAYS ? BAD : sheet.shownIn(n);
    }

    public int lasts(int letter) {
        if (!letters.has(letter)) {
            return UNKNOWN;
        }
        // No ink outlasts nine days, so that the last day needs no look.
        int days = 0;
        while (days < MOST_DAYS && letters.canBeRead(letter, sheet.shownIn(days))) {
            days++;
        }
        return days;
    }

    public int shows(int set) {
        return set < 0 || set > letters.all() ? BAD : letters.shownBy(set);
    }

    public int fits(int what) {
        if (what < 0 || what > 2) {
            return BAD;
        }
        int shown = sheet.shownIn(0);
        int many = 0;
        int inAll = letters.all();
        int inSome = 0;
        for (int set = 0; set <= letters.all(); set++) {
            if (letters.shownBy(set) == shown) {
                many++;
                inAll &= set;
                inSome |= set;
            }
        }
        return told(what, many, inAll, letters.all() & ~inSome);
    }

    public int keeps(int what) {
        if (what < 0 || what > 1) {
            return BAD;
        }
        int best = 0;
        for (int set = 1; set <= letters.all(); set++) {
            if (keepsMore(set, best)) {
                best = set;
            }
        }
        return what == 0 ? readOf(best) : best;
    }

    public int twice(int what) {
        if (what < 0 || what > 2) {
            return BAD;
        }
        int many = 0;
        int alwaysTwice = letters.all();
        int neverThere = letters.all();
        times.start();
        for (int rows = power(MOST_TIMES + 1, letters.count); rows > 0; rows--) {
            if (timesGiveTheInk()) {
                many++;
                alwaysTwice &= times.lettersThere(MOST_TIMES);
                neverThere &= times.lettersThere(0);
            }
            times.next();
        }
        return told(what, many, alwaysTwice, neverThere);
    }

    public int crossed(int what) {
        if (what < 0 || what > 1) {
            return BAD;
        }
        int many = 0;
        int first = NONE;
        for (int i = 0; i < letters.count; i++) {
            for (int j = i + 1; j < letters.count; j++) {
                int third = leastThird(i, j);
                if (third != NONE) {
                    many++;
                    first = first == NONE ? 100 * i + 10 * j + third : first;
                }
            }
        }
        return what == 0 ? many : first;
    }

    public int least(int cells) {
        if (cells < 0 || cells > ALL_CELLS) {
            return BAD;
        }
        int missing = cells & ~sheet.shownIn(0);
        int best = NONE;
        for (int set = 0; set <= letters.all(); set++) {
            boolean enough = (missing & ~letters.shownBy(set)) == 0;
            if (enough && (best == NONE || Integer.bitCount(set) < Integer.bitCount(best))) {
                best = set;
            }
        }
        return best;
    }

    public int share(int letter, boolean upper) {
        if (!letters.has(letter)) {
            return UNKNOWN;
        }
        // A cell is new by the one of its letters that comes first, and each of them is that one as likely.
        int cells = letters.shownBy(1 << letter);
        int parts = 0;
        for (int cell = 0; cell < CELLS; cell++) {
            int sharers = letters.showing(cell);
            if ((cells >> cell & 1) == 1 && sharers > 0) {
                parts += SHARE_PARTS / sharers;
            }
        }
        return leastTerms(parts, SHARE_PARTS, upper);
    }

    // ---- over

    public int tell(int letter, int other) {
        if (!letters.has(letter) || !letters.has(other)) {
            return UNKNOWN;
        }
        if (letter == other) {
            return BAD;
        }
        return over.add(letter, other) ? over.count : FULL;
    }

    public int untell() {
        int count = over.count;
        over.count = 0;
        return count;
    }

    public int orders(int what) {
        switch (what) {
            case 0: return over.howManyOrders(letters.count);
            case 1: return over.firstOrder(letters.count);
            default: return BAD;
        }
    }

    // ---- rests, chances

    public int rests(int letter, int what) {
        if (!letters.has(letter)) {
            return UNKNOWN;
        }
        if (what < 0 || what > 1) {
            return BAD;
        }
        int hand = letters.handOf(letter);
        int many = 0;
        int first = NONE;
        for (int force = 0; force <= MOST_CHOICE; force++) {
            for (int days = 0; days <= MOST_CHOICE; days++) {
                if (isAtRest(hand, force, days)) {
                    many++;
                    first = first == NONE ? 10 * force + days : first;
                }
            }
        }
        return what == 0 ? many : first;
    }

    public int chance(int letter, int x, boolean upper) {
        if (!letters.has(letter)) {
            return UNKNOWN;
        }
        if (x < 0 || x > TENTHS) {
            return BAD;
        }
        int shown = sheet.shownIn(0) & letters.windowOf(letter);
        int cells = letters.cellsOf(letter);
        if ((cells & ~shown) != 0) {
            return leastTerms(0, 1, upper);
        }
        int stay = Integer.bitCount(cells);
        int fade = Integer.bitCount(shown & ~cells);
        return leastTerms(power(TENTHS - x, stay) * power(x, fade), power(TENTHS, stay + fade), upper);
    }

    public long seed(long v) {
        long was = theSeed;
        theSeed = v;
        return was;
    }

    public int years(int m) {
        if (m < 1 || m > MOST_YEARS) {
            return BAD;
        }
        copy(sheet, trial);
        int together = 0;
        for (int year = 0; year < m; year++) {
            theSeed = theSeed * SEED_TIMES + SEED_MORE;
            befall((int) ((theSeed >>> 33) % 9L));
            together += Integer.bitCount(letters.readable(trial.shownIn(0)));
        }
        return together;
    }

    // ---- slots

    public int keep(int slot) {
        if (slot < 0 || slot >= SLOTS) {
            return UNKNOWN;
        }
        slots.store(slot, sheet);
        return sheet.date;
    }

    public int again(int slot) {
        if (slot < 0 || slot >= SLOTS) {
            return UNKNOWN;
        }
        if (!slots.load(slot, sheet)) {
            return LATE;
        }
        acts.forget();
        return sheet.date;
    }

    // ---- what the calls share

    private static boolean isCell(int cell) {
        return cell >= 0 && cell < CELLS;
    }

    private void readLetters() {
        letters.count = 0;
        for (int start = 1; start < text.length; start += LETTER_BYTES) {
            letters.add(text.figureAt(start + 1), text.figureAt(start + 2),
                    text.figureAt(start + 3), text.figureAt(start + 4));
        }
    }

    private static void copy(Sheet from, Sheet to) {
        if (from == null || to == null) {
            return;
        }
        for (int cell = 0; cell < CELLS; cell++) {
            to.ink[cell] = from.ink[cell];
            to.top[cell] = from.top[cell];
        }
        to.date = from.date;
    }

    private void befall(int lot) {
        if (letters.has(lot)) {
            trial.addInk(letters.cellsOf(lot), letters.forceOf(lot), lot);
        } else if (lot == 6 || lot == 7) {
            trial.dry();
        } else if (lot == 8) {
            trial.renew();
        }
    }

    private static int told(int what, int many, int inAll, int inNone) {
        if (what == 0) {
            return many;
        }
        if (many == 0) {
            return NONE;
        }
        return what == 1 ? inAll : inNone;
    }

    private int readOf(int set) {
        return Integer.bitCount(set & letters.readable(letters.shownBy(set)));
    }

    /** Sets are looked at from the least on, so that of like ones the least stays. */
    private boolean keepsMore(int set, int best) {
        int more = readOf(set) - readOf(best);
        return more > 0 || more == 0 && Integer.bitCount(set) < Integer.bitCount(best);
    }

    private boolean timesGiveTheInk() {
        for (int cell = 0; cell < CELLS; cell++) {
            if (sheet.inkAt(cell) != inkByTimes(cell)) {
                return false;
            }
        }
        return true;
    }

    private int inkByTimes(int cell) {
        int ink = 0;
        for (int letter = 0; letter < letters.count; letter++) {
            if ((letters.cellsOf(letter) >> cell & 1) == 1) {
                ink += times.howOften(letter) * letters.forceOf(letter);
            }
        }
        return Math.min(MOST_INK, ink);
    }

    private int leastThird(int i, int j) {
        int shown = letters.shownBy(1 << i | 1 << j);
        for (int third = 0; third < letters.count; third++) {
            if (third != i && third != j && letters.canBeRead(third, shown)) {
                return third;
            }
        }
        return NONE;
    }

    private static boolean isSeen(int force, int days) {
        return force > days;
    }

    private static int clerkHas(int force, int days) {
        return isSeen(force, days) ? 2 * force - 5 : 2 * force;
    }

    private static int auditorHas(int force, int days) {
        return isSeen(force, days) ? 4 - days : -days;
    }

    private static boolean canPressBy(int hand, int force) {
        return !(hand == HEAVY && force < 1) && !(hand == LIGHT && force > 2);
    }

    private static boolean isAtRest(int hand, int force, int days) {
        if (!canPressBy(hand, force)) {
            return false;
        }
        for (int other = 0; other <= MOST_CHOICE; other++) {
            if (canPressBy(hand, other) && clerkHas(other, days) > clerkHas(force, days)) {
                return false;
            }
            if (auditorHas(force, other) > auditorHas(force, days)) {
                return false;
            }
        }
        return true;
    }

    private static int power(int base, int exponent) {
        int product = 1;
        for (int i = 0; i < exponent; i++) {
            product *= base;
        }
        return product;
    }

    private static int leastTerms(int above, int below, boolean upper) {
        int divisor = commonDivisor(above, below);
        int part = upper ? above : below;
        return divisor > 0 ? part / divisor : part;
    }

    private static int commonDivisor(int one, int other) {
        int a = one;
        int b = other;
        // Euclid's way ends in fewer steps than an int has bits, twice.
        for (int step = 0; step < 64 && b != 0; step++) {
            int rest = a % b;
            a = b;
            b = rest;
        }
        return a;
    }

    /** THE TEXT: bytes, and the first fault by which they are no OFFICE. */
    private static final class Text {
        private final int[] bytes = new int[MOST_BYTES];
        private int length;

        private boolean append(int b) {
            if (length < 0 || length >= bytes.length) {
                return false;
            }
            bytes[length] = b;
            length++;
            return true;
        }

        private int byteAt(int place) {
            return place >= 0 && place < length && place < bytes.length ? bytes[place] : NONE;
        }

        private int figureAt(int place) {
            return byteAt(place) - '0';
        }

        private int firstFault() {
            for (int place = 0; place < length; place++) {
                if (!isRight(place)) {
                    return place;
                }
            }
            return length > 0 && (length - 1) % LETTER_BYTES == 0 ? NONE : length;
        }

        private boolean isRight(int place) {
            if (place == 0) {
                return byteAt(0) == 'B';
            }
            if (place > MOST_LETTERS * LETTER_BYTES) {
                return false;
            }
            switch ((place - 1) % LETTER_BYTES) {
                case 0: return byteAt(place) == 'L';
                case 1: return isFigure(place, 0, 8);
                case 2: return isFigure(place, 1, 9);
                case 3: return isFigure(place, 1, 3);
                default: return isFigure(place, 0, 3);
            }
        }

        private boolean isFigure(int place, int lowest, int highest) {
            return figureAt(place) >= lowest && figureAt(place) <= highest;
        }
    }

    /** The LETTERS of THE OFFICE. A set of them has bit i for LETTER i. */
    private static final class Letters {
        private final int[] place = new int[MOST_LETTERS];
        private final int[] hand = new int[MOST_LETTERS];
        private final int[] force = new int[MOST_LETTERS];
        private final int[] cells = new int[MOST_LETTERS];
        private int count;

        private void add(int itsPlace, int marks, int strength, int itsHand) {
            if (count >= 0 && count < MOST_LETTERS) {
                place[count] = itsPlace;
                hand[count] = itsHand;
                force[count] = forceBy(strength, itsHand);
                cells[count] = marksBy(marks, itsHand) << itsPlace;
                count++;
            }
        }

        private static int forceBy(int strength, int hand) {
            if (hand == LIGHT) {
                return strength - 1;
            }
            return hand == HEAVY ? strength + 1 : strength;
        }

        private static int marksBy(int marks, int hand) {
            if (hand != TURNED) {
                return marks;
            }
            int turned = 0;
            for (int bit = 0; bit < LETTER_CELLS; bit++) {
                turned |= (marks >> bit & 1) << LETTER_CELLS - 1 - bit;
            }
            return turned;
        }

        private boolean has(int letter) {
            return letter >= 0 && letter < count && letter < MOST_LETTERS;
        }

        private int all() {
            return (1 << count) - 1;
        }

        private int placeOf(int letter) {
            return has(letter) ? place[letter] : 0;
        }

        private int handOf(int letter) {
            return has(letter) ? hand[letter] : 0;
        }

        private int forceOf(int letter) {
            return has(letter) ? force[letter] : 0;
        }

        private int cellsOf(int letter) {
            return has(letter) ? cells[letter] : 0;
        }

        private int windowOf(int letter) {
            return has(letter) ? LETTER_WINDOW << place[letter] : 0;
        }

        private boolean canBeRead(int letter, int shown) {
            return has(letter) && (shown & LETTER_WINDOW << place[letter]) == cells[letter];
        }

        private int readable(int shown) {
            int set = 0;
            for (int letter = 0; letter < count; letter++) {
                if (canBeRead(letter, shown)) {
                    set |= 1 << letter;
                }
            }
            return set;
        }

        private int shownBy(int set) {
            int shown = 0;
            for (int letter = 0; letter < count; letter++) {
                if ((set >> letter & 1) == 1 && forceOf(letter) != 0) {
                    shown |= cellsOf(letter);
                }
            }
            return shown;
        }

        private int showing(int cell) {
            int many = 0;
            for (int letter = 0; letter < count; letter++) {
                many += shownBy(1 << letter) >> cell & 1;
            }
            return many;
        }
    }

    /** The SHEET, with THE DAY, for both are undone and kept together. */
    private static final class Sheet {
        private final int[] ink = new int[CELLS];
        private final int[] top = new int[CELLS];
        private int date;

        private Sheet() {
            renew();
        }

        private void renew() {
            for (int cell = 0; cell < CELLS; cell++) {
                clean(cell);
            }
        }

        private void clean(int cell) {
            if (isCell(cell)) {
                ink[cell] = 0;
                top[cell] = NONE;
            }
        }

        private void addInk(int cells, int force, int letter) {
            for (int cell = 0; cell < CELLS; cell++) {
                if (force > 0 && (cells >> cell & 1) == 1) {
                    ink[cell] = Math.min(MOST_INK, ink[cell] + force);
                    top[cell] = letter;
                }
            }
        }

        private void dry() {
            for (int cell = 0; cell < CELLS; cell++) {
                if (ink[cell] > 1) {
                    ink[cell]--;
                } else {
                    clean(cell);
                }
            }
            date++;
        }

        private int inkAt(int cell) {
            return isCell(cell) ? ink[cell] : 0;
        }

        private int topAt(int cell) {
            return isCell(cell) ? top[cell] : NONE;
        }

        private int shownIn(int days) {
            int shown = 0;
            for (int cell = 0; cell < CELLS; cell++) {
                if (ink[cell] > days) {
                    shown |= 1 << cell;
                }
            }
            return shown;
        }

        private int allInk() {
            int all = 0;
            for (int cell = 0; cell < CELLS; cell++) {
                all += ink[cell];
            }
            return all;
        }

        private int onTop() {
            int set = 0;
            for (int cell = 0; cell < CELLS; cell++) {
                if (top[cell] != NONE) {
                    set |= 1 << top[cell];
                }
            }
            return set;
        }
    }

    /** The row of ACTS: before each of them, how the SHEET was. */
    private static final class Acts {
        private final Sheet[] before = new Sheet[MOST_ACTS];
        private int first;
        private int count;

        private Acts() {
            for (int act = 0; act < MOST_ACTS; act++) {
                before[act] = new Sheet();
            }
        }

        private void forget() {
            first = 0;
            count = 0;
        }

        private void remember(Sheet sheet) {
            copy(sheet, sheetAt(count));
            if (count < MOST_ACTS) {
                count++;
            } else {
                // The row is a ring: the newest has just taken the place of the first one.
                first = (first + 1) % MOST_ACTS;
            }
        }

        private boolean takeBack(Sheet sheet) {
            if (count <= 0) {
                return false;
            }
            count--;
            copy(sheetAt(count), sheet);
            return true;
        }

        private Sheet sheetAt(int act) {
            int index = (first + act) % MOST_ACTS;
            return index >= 0 && index < MOST_ACTS ? before[index] : null;
        }
    }

    /** The SLOTS. */
    private static final class Slots {
        private final Sheet[] kept = new Sheet[SLOTS];
        private int filled;

        private Slots() {
            for (int slot = 0; slot < SLOTS; slot++) {
                kept[slot] = new Sheet();
            }
        }

        private void forget() {
            filled = 0;
        }

        private void store(int slot, Sheet sheet) {
            if (slot >= 0 && slot < SLOTS) {
                copy(sheet, kept[slot]);
                filled |= 1 << slot;
            }
        }

        private boolean load(int slot, Sheet sheet) {
            if (slot < 0 || slot >= SLOTS || (filled >> slot & 1) == 0) {
                return false;
            }
            copy(kept[slot], sheet);
            return true;
        }
    }

    /** What is told to be OVER, and the ORDERS by which it is so. */
    private static final class Over {
        private final int[] upper = new int[MOST_OVER];
        private final int[] lower = new int[MOST_OVER];
        private final int[] ways = new int[MOST_SETS];
        private int count;

        private boolean add(int letter, int other) {
            if (count < 0 || count >= MOST_OVER) {
                return false;
            }
            upper[count] = letter;
            lower[count] = other;
            count++;
            return true;
        }

        /** The LETTERS that this one lies over; those that there are not any more are left out. */
        private int setBelow(int letter, int letters) {
            int set = 0;
            for (int told = 0; told < count && told < MOST_OVER; told++) {
                if (upper[told] == letter && lower[told] < letters) {
                    set |= 1 << lower[told];
                }
            }
            return set;
        }

        private boolean canFollow(int letter, int pressed, int letters) {
            return (pressed >> letter & 1) == 0 && (setBelow(letter, letters) & ~pressed) == 0;
        }

        /** A set's ORDERS are those of it without one LETTER, for each LETTER that can be its last. */
        private int howManyOrders(int letters) {
            int sets = Math.min(MOST_SETS, 1 << letters);
            ways[0] = 1;
            for (int set = 1; set < sets; set++) {
                ways[set] = 0;
                for (int last = 0; last < letters; last++) {
                    int others = set & ~(1 << last);
                    if (others != set && canFollow(last, others, letters)) {
                        ways[set] += ways[others];
                    }
                }
            }
            return sets > 0 ? ways[sets - 1] : 0;
        }

        private int firstOrder(int letters) {
            int pressed = 0;
            int figures = 0;
            for (int place = 0; place < letters; place++) {
                int next = leastNext(pressed, letters);
                if (next == NONE) {
                    return NONE;
                }
                pressed |= 1 << next;
                figures = 10 * figures + next + 1;
            }
            return figures;
        }

        private int leastNext(int pressed, int letters) {
            for (int letter = 0; letter < letters; letter++) {
                if (canFollow(letter, pressed, letters)) {
                    return letter;
                }
            }
            return NONE;
        }
    }

    /** A row of how often each LETTER was PRESSED, and the next such row. */
    private static final class Times {
        private final int[] often = new int[MOST_LETTERS];

        private void start() {
            for (int letter = 0; letter < MOST_LETTERS; letter++) {
                often[letter] = 0;
            }
        }

        private int howOften(int letter) {
            return letter >= 0 && letter < MOST_LETTERS ? often[letter] : 0;
        }

        private void next() {
            int letter = 0;
            while (letter < MOST_LETTERS && often[letter] == MOST_TIMES) {
                often[letter] = 0;
                letter++;
            }
            if (letter < MOST_LETTERS) {
                often[letter]++;
            }
        }

        private int lettersThere(int howOften) {
            int set = 0;
            for (int letter = 0; letter < MOST_LETTERS; letter++) {
                if (often[letter] == howOften) {
                    set |= 1 << letter;
                }
            }
            return set;
        }
    }
}
