import java.math.BigInteger;
import java.util.ArrayDeque;
import java.util.ArrayList;
import java.util.Arrays;
import java.util.HashSet;
import java.util.List;
import java.util.Set;
import java.util.TreeSet;
import java.util.regex.Matcher;
import java.util.regex.Pattern;

/** The document once more, by trying out everything: orders one by one, outcomes one by one. */
final class Model {
    static final int UNKNOWN = -1, BAD = -2, LATE = -3, FULL = -4, NONE = -9;
    private static final Pattern OFFICE = Pattern.compile("B(L[0-8][1-9][1-3][0-3]){0,6}", Pattern.DOTALL);

    record Letter(int place, int hand, int force, Set<Integer> cells) { }

    record Blot(int[] ink, int[] top, int day) {
        Blot copy() {
            return new Blot(ink.clone(), top.clone(), day);
        }
    }

    private String text = "";
    private List<Letter> letters = new ArrayList<>();
    private Blot blot = fresh(0);
    private final ArrayDeque<Blot> acts = new ArrayDeque<>();
    private final Blot[] kept = new Blot[2];
    private final List<int[]> over = new ArrayList<>();
    private long seed = 0;

    private static Blot fresh(int day) {
        int[] top = new int[12];
        Arrays.fill(top, NONE);
        return new Blot(new int[12], top, day);
    }

    private boolean no(int letter) {
        return letter < 0 || letter >= letters.size();
    }

    private static Set<Integer> shown(int[] ink, int days) {
        Set<Integer> all = new TreeSet<>();
        for (int c = 0; c < 12; c++) {
            if (ink[c] - days > 0) {
                all.add(c);
            }
        }
        return all;
    }

    private static int bits(Set<Integer> set) {
        int all = 0;
        for (int i : set) {
            all |= 1 << i;
        }
        return all;
    }

    private static void stamp(Letter l, int number, Blot on) {
        if (l.force() == 0) {
            return;
        }
        for (int c : l.cells()) {
            on.ink()[c] = Math.min(9, on.ink()[c] + l.force());
            on.top()[c] = number;
        }
    }

    private static boolean read(Letter l, Set<Integer> shown) {
        for (int c = l.place(); c <= l.place() + 3; c++) {
            if (shown.contains(c) != l.cells().contains(c)) {
                return false;
            }
        }
        return true;
    }

    private Set<Integer> readable(Set<Integer> shown) {
        Set<Integer> all = new TreeSet<>();
        for (int i = 0; i < letters.size(); i++) {
            if (read(letters.get(i), shown)) {
                all.add(i);
            }
        }
        return all;
    }

    private Set<Integer> by(int set) {
        Blot b = fresh(0);
        for (int i = 0; i < letters.size(); i++) {
            if ((set & 1 << i) != 0) {
                stamp(letters.get(i), i, b);
            }
        }
        return shown(b.ink(), 0);
    }

    private void act() {
        acts.addLast(blot.copy());
        if (acts.size() > 14) {
            acts.removeFirst();
        }
    }

    private static Blot dried(Blot b) {
        Blot next = new Blot(b.ink().clone(), b.top().clone(), b.day() + 1);
        for (int c = 0; c < 12; c++) {
            next.ink()[c] = Math.max(0, b.ink()[c] - 1);
            if (next.ink()[c] == 0) {
                next.top()[c] = NONE;
            }
        }
        return next;
    }

    int write(int b) {
        if (b < 0 || b > 255) {
            return BAD;
        }
        if (text.length() == 40) {
            return FULL;
        }
        text += (char) b;
        return text.length();
    }

    int wipe() {
        int was = text.length();
        text = "";
        return was;
    }

    int fault() {
        for (int i = 0; i < text.length(); i++) {
            Matcher m = OFFICE.matcher(text.substring(0, i + 1));
            if (!m.matches() && !m.hitEnd()) {
                return i;
            }
        }
        return OFFICE.matcher(text).matches() ? NONE : text.length();
    }

    int office() {
        if (fault() != NONE) {
            return LATE;
        }
        letters = new ArrayList<>();
        for (String one : text.substring(1).split("L")) {
            if (one.isEmpty()) {
                continue;
            }
            int p = one.charAt(0) - '0';
            int m = one.charAt(1) - '0';
            int s = one.charAt(2) - '0';
            int k = one.charAt(3) - '0';
            Set<Integer> cells = new HashSet<>();
            for (int i = 0; i < 4; i++) {
                if ((m & 1 << i) != 0) {
                    cells.add(k == 3 ? p + 3 - i : p + i);
                }
            }
            letters.add(new Letter(p, k, k == 1 ? s - 1 : k == 2 ? s + 1 : s, cells));
        }
        blot = fresh(0);
        acts.clear();
        Arrays.fill(kept, null);
        return letters.size();
    }

    int about(int what) {
        Set<Integer> tops = new HashSet<>();
        for (int t : blot.top()) {
            if (t != NONE) {
                tops.add(t);
            }
        }
        int[] all = {letters.size(), blot.day(), bits(shown(blot.ink(), 0)), Arrays.stream(blot.ink()).sum(),
            bits(readable(shown(blot.ink(), 0))), bits(tops), acts.size(), over.size(), text.length()};
        return what < 0 || what >= all.length ? BAD : all[what];
    }

    int letter(int letter, int what) {
        if (no(letter)) {
            return UNKNOWN;
        }
        Letter l = letters.get(letter);
        int[] all = {l.place(), l.hand(), l.force(), bits(l.cells()), read(l, shown(blot.ink(), 0)) ? 1 : 0};
        return what < 0 || what >= all.length ? BAD : all[what];
    }

    int cell(int cell, int what) {
        if (cell < 0 || cell > 11 || what < 0 || what > 1) {
            return BAD;
        }
        return what == 0 ? blot.ink()[cell] : blot.top()[cell];
    }

    int press(int letter) {
        if (no(letter)) {
            return UNKNOWN;
        }
        act();
        stamp(letters.get(letter), letter, blot);
        return shown(blot.ink(), 0).size();
    }

    int day() {
        act();
        blot = dried(blot);
        return blot.day();
    }

    int rub(int cell) {
        if (cell < 0 || cell > 11) {
            return BAD;
        }
        int was = blot.ink()[cell];
        if (was == 0) {
            return LATE;
        }
        act();
        blot.ink()[cell] = 0;
        blot.top()[cell] = NONE;
        return was;
    }

    int change() {
        int was = shown(blot.ink(), 0).size();
        if (was == 0) {
            return LATE;
        }
        act();
        blot = fresh(blot.day());
        return was;
    }

    int undo() {
        if (acts.isEmpty()) {
            return LATE;
        }
        blot = acts.removeLast();
        return acts.size();
    }

    int later(int n) {
        return n < 0 || n > 9 ? BAD : bits(shown(blot.ink(), n));
    }

    int lasts(int letter) {
        if (no(letter)) {
            return UNKNOWN;
        }
        Blot b = blot;
        for (int n = 0; n <= 9; n++) {
            if (!read(letters.get(letter), shown(b.ink(), 0))) {
                return n;
            }
            b = dried(b);
        }
        throw new IllegalStateException("ink behind nine days");
    }

    int shows(int set) {
        return set < 0 || set >= 1 << letters.size() ? BAD : bits(by(set));
    }

    private int told(int what, List<Integer> yes, List<Integer> no) {
        if (what < 0 || what > 2) {
            return BAD;
        }
        if (what == 0) {
            return yes.size();
        }
        if (yes.isEmpty()) {
            return NONE;
        }
        int all = (1 << letters.size()) - 1;
        for (int set : what == 1 ? yes : no) {
            all &= set;
        }
        return all;
    }

    int fits(int what) {
        List<Integer> in = new ArrayList<>();
        List<Integer> out = new ArrayList<>();
        for (int set = 0; set < 1 << letters.size(); set++) {
            if (by(set).equals(shown(blot.ink(), 0))) {
                in.add(set);
                out.add(~set);
            }
        }
        return told(what, in, out);
    }

    int keeps(int what) {
        if (what < 0 || what > 1) {
            return BAD;
        }
        List<int[]> all = new ArrayList<>();
        for (int set = 0; set < 1 << letters.size(); set++) {
            int many = 0;
            for (int i : readable(by(set))) {
                many += set >> i & 1;
            }
            all.add(new int[] {-many, Integer.bitCount(set), set});
        }
        all.sort(Arrays::compare);
        return what == 0 ? -all.get(0)[0] : all.get(0)[2];
    }

    int twice(int what) {
        List<Integer> two = new ArrayList<>();
        List<Integer> none = new ArrayList<>();
        rows(0, 0, 0, fresh(0), two, none);
        return told(what, two, none);
    }

    private void rows(int letter, int twos, int nones, Blot b, List<Integer> two, List<Integer> none) {
        if (letter == letters.size()) {
            if (Arrays.equals(b.ink(), blot.ink())) {
                two.add(twos);
                none.add(nones);
            }
            return;
        }
        Blot c = b.copy();
        rows(letter + 1, twos, nones | 1 << letter, c, two, none);
        stamp(letters.get(letter), letter, c);
        rows(letter + 1, twos, nones, c, two, none);
        stamp(letters.get(letter), letter, c);
        rows(letter + 1, twos | 1 << letter, nones, c, two, none);
    }

    int crossed(int what) {
        if (what < 0 || what > 1) {
            return BAD;
        }
        TreeSet<Integer> pairs = new TreeSet<>();
        int first = NONE;
        for (int i = 5; i >= 0; i--) {
            for (int j = 5; j > i; j--) {
                for (int k = 5; k >= 0; k--) {
                    if (!no(i) && !no(j) && !no(k) && k != i && k != j && readable(by(1 << i | 1 << j)).contains(k)) {
                        pairs.add(10 * i + j);
                        first = 100 * i + 10 * j + k;
                    }
                }
            }
        }
        return what == 0 ? pairs.size() : first;
    }

    int least(int cells) {
        if (cells < 0 || cells > 4095) {
            return BAD;
        }
        List<int[]> all = new ArrayList<>();
        for (int set = 0; set < 1 << letters.size(); set++) {
            Blot b = blot.copy();
            for (int i = 0; i < letters.size(); i++) {
                if ((set & 1 << i) != 0) {
                    stamp(letters.get(i), i, b);
                }
            }
            if ((bits(shown(b.ink(), 0)) & cells) == cells) {
                all.add(new int[] {Integer.bitCount(set), set});
            }
        }
        all.sort(Arrays::compare);
        return all.isEmpty() ? NONE : all.get(0)[1];
    }

    private static int part(BigInteger above, BigInteger below, boolean upper) {
        BigInteger g = above.gcd(below);
        return (upper ? above : below).divide(g).intValueExact();
    }

    private List<List<Integer>> all() {
        List<List<Integer>> rows = new ArrayList<>();
        grow(new ArrayList<>(), rows);
        return rows;
    }

    private void grow(List<Integer> row, List<List<Integer>> rows) {
        if (row.size() == letters.size()) {
            rows.add(new ArrayList<>(row));
            return;
        }
        for (int i = 0; i < letters.size(); i++) {
            if (!row.contains(i)) {
                row.add(i);
                grow(row, rows);
                row.remove(row.size() - 1);
            }
        }
    }

    int share(int letter, boolean upper) {
        if (no(letter)) {
            return UNKNOWN;
        }
        long more = 0;
        long orders = 0;
        for (List<Integer> row : all()) {
            int set = 0;
            for (int i = 0; row.get(i) != letter; i++) {
                set |= 1 << row.get(i);
            }
            more += by(set | 1 << letter).size() - by(set).size();
            orders++;
        }
        return part(BigInteger.valueOf(more), BigInteger.valueOf(orders), upper);
    }

    int tell(int letter, int other) {
        if (no(letter) || no(other)) {
            return UNKNOWN;
        }
        if (letter == other) {
            return BAD;
        }
        if (over.size() == 6) {
            return FULL;
        }
        over.add(new int[] {letter, other});
        return over.size();
    }

    int untell() {
        int was = over.size();
        over.clear();
        return was;
    }

    int orders(int what) {
        if (what < 0 || what > 1) {
            return BAD;
        }
        TreeSet<Integer> good = new TreeSet<>();
        for (List<Integer> row : all()) {
            boolean so = true;
            int figures = 0;
            for (int[] o : over) {
                so &= no(o[0]) || no(o[1]) || row.indexOf(o[0]) > row.indexOf(o[1]);
            }
            for (int i : row) {
                figures = figures * 10 + i + 1;
            }
            if (so) {
                good.add(figures);
            }
        }
        if (what == 0) {
            return good.size();
        }
        return good.isEmpty() ? NONE : good.first();
    }

    int rests(int letter, int what) {
        if (no(letter)) {
            return UNKNOWN;
        }
        if (what < 0 || what > 1) {
            return BAD;
        }
        int hand = letters.get(letter).hand();
        int low = hand == 2 ? 1 : 0;
        int high = hand == 1 ? 2 : 3;
        List<Integer> good = new ArrayList<>();
        for (int f = low; f <= high; f++) {
            for (int d = 0; d <= 3; d++) {
                int bestClerk = Integer.MIN_VALUE;
                int bestAuditor = Integer.MIN_VALUE;
                for (int g = low; g <= high; g++) {
                    bestClerk = Math.max(bestClerk, 2 * g - (g > d ? 5 : 0));
                }
                for (int e = 0; e <= 3; e++) {
                    bestAuditor = Math.max(bestAuditor, (f > e ? 4 : 0) - e);
                }
                if (2 * f - (f > d ? 5 : 0) == bestClerk && (f > d ? 4 : 0) - d == bestAuditor) {
                    good.add(10 * f + d);
                }
            }
        }
        return what == 0 ? good.size() : good.isEmpty() ? NONE : good.get(0);
    }

    int chance(int letter, int x, boolean upper) {
        if (no(letter)) {
            return UNKNOWN;
        }
        if (x < 0 || x > 10) {
            return BAD;
        }
        List<Integer> now = new ArrayList<>(shown(blot.ink(), 0));
        BigInteger above = BigInteger.ZERO;
        for (int gone = 0; gone < 1 << now.size(); gone++) {
            Set<Integer> left = new HashSet<>();
            BigInteger weight = BigInteger.ONE;
            for (int i = 0; i < now.size(); i++) {
                boolean fades = (gone & 1 << i) != 0;
                weight = weight.multiply(BigInteger.valueOf(fades ? x : 10 - x));
                if (!fades) {
                    left.add(now.get(i));
                }
            }
            if (read(letters.get(letter), left)) {
                above = above.add(weight);
            }
        }
        return part(above, BigInteger.TEN.pow(now.size()), upper);
    }

    long seed(long v) {
        long was = seed;
        seed = v;
        return was;
    }

    int years(int m) {
        if (m < 1 || m > 30) {
            return BAD;
        }
        BigInteger word = BigInteger.ONE.shiftLeft(64);
        Blot b = blot.copy();
        int together = 0;
        for (int i = 0; i < m; i++) {
            BigInteger x = BigInteger.valueOf(seed).multiply(new BigInteger("6364136223846793005"))
                .add(new BigInteger("1442695040888963407")).mod(word);
            seed = x.longValue();
            int lot = x.shiftRight(33).mod(BigInteger.valueOf(9)).intValue();
            if (lot <= 5) {
                if (!no(lot)) {
                    stamp(letters.get(lot), lot, b);
                }
            } else {
                b = lot == 8 ? fresh(b.day()) : dried(b);
            }
            together += readable(shown(b.ink(), 0)).size();
        }
        return together;
    }

    int keep(int slot) {
        if (slot < 0 || slot > 1) {
            return UNKNOWN;
        }
        kept[slot] = blot.copy();
        return blot.day();
    }

    int again(int slot) {
        if (slot < 0 || slot > 1) {
            return UNKNOWN;
        }
        if (kept[slot] == null) {
            return LATE;
        }
        blot = kept[slot].copy();
        acts.clear();
        return blot.day();
    }
}
