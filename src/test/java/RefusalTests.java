import java.util.ArrayList;
import java.util.LinkedHashMap;
import java.util.List;
import java.util.Map;
import java.util.function.Consumer;
import java.util.function.Function;
import java.util.function.ToLongFunction;

/**
 * Term 4 of the document: every refusal, in states where something stands that it could spoil; of several what is told
 * first; that what is refused changes nothing; and that each call that is taken changes nothing but what it tells.
 * Two objects come to the same state, one of them is called, and both are looked at through and through.
 */
public final class RefusalTests {
    private static final int UNKNOWN = Offices.UNKNOWN, BAD = Offices.BAD, LATE = Offices.LATE;
    private static final int FULL = Offices.FULL, NONE = Offices.NONE;
    private static final int MIN = Integer.MIN_VALUE, MAX = Integer.MAX_VALUE;
    private static final Check C = new Check("RefusalTests");
    private static final String SIX = Offices.ofLetters(6);

    /** How an object comes to a state, and what is so then. */
    private record State(String name, int letters, int bytes, boolean fault, int over, boolean acts, int kept,
            Consumer<BlottedFirst> make) {
        BlottedFirst made() {
            BlottedFirst x = new BlottedFirst();
            make.accept(x);
            return x;
        }

        boolean hasKept(int slot) {
            return (kept >> slot & 1) == 1;
        }
    }

    private record Call(String name, ToLongFunction<BlottedFirst> call, long due) { }

    private static final List<State> STATES = states();
    private static final Map<String, Function<BlottedFirst, String>> PARTS = parts();
    private static final String ALL_PARTS = "TEXT LETTERS SHEET ACTS OVER SEED SLOT0 SLOT1";

    public static void main(String[] args) {
        for (State state : STATES) {
            Map<String, String> due = looked(state.made(), state);
            for (Call call : refused(state)) {
                changesOnly(state, call, "", due, true);
            }
            for (Call call : asked(state)) {
                changesOnly(state, call, "", due, false);
            }
            taken(state, due);
        }
        toldFirst();
        C.end();
    }

    private static List<State> states() {
        List<State> all = new ArrayList<>();
        all.add(new State("new", 0, 0, true, 0, false, 0, x -> { }));
        all.add(new State("a text with a fault", 0, 5, true, 0, false, 0, x -> Offices.put(x, "BL910")));
        all.add(new State("a text not at its end", 0, 4, true, 0, false, 0, x -> Offices.put(x, "BL01")));
        all.add(new State("a text of 40", 0, 40, true, 0, true, 1, x -> {
            x.day();
            x.keep(0);
            Offices.put(x, SIX + "L0110L011");
        }));
        all.add(new State("an office of none", 0, 1, false, 0, true, 2, x -> {
            Offices.put(x, "B");
            x.office();
            x.day();
            x.keep(1);
        }));
        all.add(new State("one letter, a new sheet", 1, 6, false, 0, false, 0, x -> {
            Offices.put(x, "BL0732");
            x.office();
        }));
        all.add(new State("one letter, changed", 1, 6, false, 0, true, 0, x -> {
            Offices.put(x, "BL8933");
            x.office();
            x.press(0);
            x.change();
            x.seed(Long.MIN_VALUE);
        }));
        all.add(new State("two letters, a ring", 2, 11, false, 2, true, 3, x -> {
            Offices.put(x, "BL0110L0111");
            x.office();
            x.tell(0, 1);
            x.tell(1, 0);
            x.press(0);
            x.keep(0);
            x.day();
            x.keep(1);
            x.press(1);
        }));
        all.add(new State("six letters, all full", 6, 40, true, 6, true, 3, RefusalTests::allFull));
        all.add(new State("six letters, gone on from a slot", 6, 31, false, 6, false, 2, x -> {
            Offices.put(x, "BL0332L1720L4930L5530L8811L8623");
            x.office();
            for (int i = 1; i <= 5; i++) {
                x.tell(i, i - 1);
            }
            x.tell(5, 0);
            Offices.press(x, 0, 1, 2, 3, 5);
            x.day();
            x.keep(1);
            x.press(4);
            x.again(1);
            x.seed(-1);
        }));
        all.add(new State("three letters left of six", 3, 16, false, 4, true, 2, x -> {
            Offices.put(x, SIX);
            x.office();
            x.tell(5, 0);
            x.tell(1, 4);
            x.tell(2, 1);
            x.tell(0, 5);
            Offices.put(x, "BL0110L0210L2313");
            x.office();
            Offices.press(x, 0, 1, 2, 2);
            x.day();
            x.rub(4);
            x.keep(1);
            x.seed(12345);
        }));
        return all;
    }

    private static void allFull(BlottedFirst x) {
        Offices.put(x, "BL0332L3710L4111L7920L8932L8830");
        x.office();
        for (int i = 0; i < 6; i++) {
            x.tell(i, (i + 2) % 6);
        }
        x.seed(Long.MAX_VALUE);
        Offices.press(x, 0, 0, 1, 5, 5, 5);
        x.keep(1);
        x.day();
        Offices.press(x, 2, 3, 5);
        x.keep(0);
        x.rub(7);
        Offices.press(x, 3, 5, 4, 0, 4, 4);
        Offices.put(x, SIX + "?LLLLLLLL");
    }

    /** What makes up an object's state, each looked at on an object of its own, in calls that may use it up. */
    private static Map<String, Function<BlottedFirst, String>> parts() {
        Map<String, Function<BlottedFirst, String>> all = new LinkedHashMap<>();
        all.put("TEXT", x -> {
            String bytes = x.about(8) + " bytes, fault " + x.fault();
            return bytes + ", office " + x.office() + lettersOf(x) + ", wiped " + x.wipe() + ", fault " + x.fault();
        });
        all.put("LETTERS", RefusalTests::lettersOf);
        all.put("SHEET", Offices::sheetOf);
        all.put("ACTS", x -> {
            StringBuilder row = new StringBuilder("acts ").append(x.about(6));
            for (int left = x.undo(), i = 0; left >= 0 && i < 15; left = x.undo(), i++) {
                row.append(" undo ").append(left).append(' ').append(Offices.sheetOf(x));
            }
            return row.append(" acts ").append(x.about(6)).toString();
        });
        all.put("OVER", x -> {
            String now = "over " + x.about(7) + " " + x.orders(0) + " " + x.orders(1);
            Offices.put(x, SIX);
            x.office();
            return now + ", of six " + x.orders(0) + " " + x.orders(1) + ", untold " + x.untell() + " " + x.orders(0);
        });
        all.put("SEED", x -> "seed " + x.seed(0));
        all.put("SLOT0", x -> "slot " + x.again(0) + " " + Offices.sheetOf(x));
        all.put("SLOT1", x -> "slot " + x.again(1) + " " + Offices.sheetOf(x));
        return all;
    }

    private static String lettersOf(BlottedFirst x) {
        StringBuilder all = new StringBuilder(" letters ").append(x.about(0));
        for (int i = 0; i < 6; i++) {
            for (int what = 0; what < 4; what++) {
                all.append(' ').append(x.letter(i, what));
            }
        }
        return all.toString();
    }

    /** An empty slot is looked at without the sheet, for that is then not what was kept. */
    private static String look(String part, BlottedFirst x, State state) {
        boolean slot = part.startsWith("SLOT");
        if (slot && !state.hasKept(part.charAt(4) - '0')) {
            return "slot " + x.again(part.charAt(4) - '0');
        }
        return PARTS.get(part).apply(x);
    }

    private static Map<String, String> looked(BlottedFirst x, State state) {
        Map<String, String> due = new LinkedHashMap<>();
        for (String part : ALL_PARTS.split(" ")) {
            due.put(part, look(part, state.made(), state));
        }
        C.due(state.name() + ": letters", x.about(0), state.letters());
        C.due(state.name() + ": bytes", x.about(8), state.bytes());
        C.due(state.name() + ": over", x.about(7), state.over());
        C.holds(state.name() + ": acts", x.about(6) > 0 == state.acts());
        C.holds(state.name() + ": fault", x.fault() != NONE == state.fault());
        return due;
    }

    /** The parts that are not told to change are as on an object that was not called. */
    private static void changesOnly(State state, Call call, String mayChange, Map<String, String> due, boolean answer) {
        for (String part : ALL_PARTS.split(" ")) {
            BlottedFirst x = state.made();
            long got = call.call().applyAsLong(x);
            if (answer) {
                C.due(state.name() + ": " + call.name(), got, call.due());
            }
            if (!(" " + mayChange + " ").contains(" " + part + " ")) {
                C.same(state.name() + ": " + call.name() + ", then " + part, look(part, x, state), due.get(part));
            }
        }
    }

    private static void add(List<Call> all, long due, String name, ToLongFunction<BlottedFirst> call) {
        all.add(new Call(name, call, due));
    }

    private static List<Call> refused(State state) {
        List<Call> all = new ArrayList<>();
        refusedOffice(state, all);
        refusedActs(state, all);
        refusedShown(state, all);
        refusedRest(state, all);
        return all;
    }

    private static void refusedOffice(State state, List<Call> all) {
        int n = state.letters();
        for (int b : new int[] {-1, 256, MIN, MAX, -190, 322}) {
            add(all, BAD, "write " + b, x -> x.write(b));
        }
        if (state.bytes() == 40) {
            for (int b : new int[] {0, 'B', 'L', '1', 255}) {
                add(all, FULL, "write " + b, x -> x.write(b));
            }
        }
        if (state.fault()) {
            add(all, LATE, "office", x -> x.office());
        }
        for (int what : new int[] {-1, 9, MIN, MAX}) {
            add(all, BAD, "about " + what, x -> x.about(what));
        }
        for (int what : new int[] {-1, 5, MIN, MAX, 0, 4}) {
            add(all, UNKNOWN, "letter -1 " + what, x -> x.letter(-1, what));
            add(all, UNKNOWN, "letter n " + what, x -> x.letter(n, what));
            add(all, UNKNOWN, "letter 6 " + what, x -> x.letter(6, what));
            for (int i = 0; i < n && (what < 0 || what > 4); i++) {
                int letter = i;
                add(all, BAD, "letter " + i + " " + what, x -> x.letter(letter, what));
            }
        }
        for (int cell : new int[] {-1, 12, MIN, MAX}) {
            for (int what : new int[] {-1, 0, 1, 2}) {
                add(all, BAD, "cell " + cell + " " + what, x -> x.cell(cell, what));
            }
        }
        for (int cell : new int[] {0, 11}) {
            for (int what : new int[] {-1, 2, MIN, MAX}) {
                add(all, BAD, "cell " + cell + " " + what, x -> x.cell(cell, what));
            }
        }
    }

    private static void refusedActs(State state, List<Call> all) {
        int n = state.letters();
        for (int letter : new int[] {-1, n, 6, MIN, MAX, 32, -32}) {
            add(all, UNKNOWN, "press " + letter, x -> x.press(letter));
            add(all, UNKNOWN, "lasts " + letter, x -> x.lasts(letter));
            add(all, UNKNOWN, "share " + letter, x -> x.share(letter, true));
            add(all, UNKNOWN, "share " + letter + " below", x -> x.share(letter, false));
        }
        for (int cell : new int[] {-1, 12, MIN, MAX}) {
            add(all, BAD, "rub " + cell, x -> x.rub(cell));
        }
        BlottedFirst like = state.made();
        for (int i = 0; i < 12; i++) {
            int cell = i;
            if (like.cell(cell, 0) == 0) {
                add(all, LATE, "rub " + cell, x -> x.rub(cell));
            }
        }
        if (like.about(2) == 0) {
            add(all, LATE, "change", x -> x.change());
        }
        if (!state.acts()) {
            add(all, LATE, "undo", x -> x.undo());
        }
    }

    private static void refusedShown(State state, List<Call> all) {
        int n = state.letters();
        for (int v : new int[] {-1, 10, MIN, MAX}) {
            add(all, BAD, "later " + v, x -> x.later(v));
        }
        for (int set : new int[] {-1, 1 << n, 64, 1 << n | (1 << n) - 1, MIN, MAX}) {
            add(all, BAD, "shows " + set, x -> x.shows(set));
        }
        for (int what : new int[] {-1, 3, MIN, MAX}) {
            add(all, BAD, "fits " + what, x -> x.fits(what));
            add(all, BAD, "twice " + what, x -> x.twice(what));
        }
        for (int what : new int[] {-1, 2, MIN, MAX}) {
            add(all, BAD, "keeps " + what, x -> x.keeps(what));
            add(all, BAD, "crossed " + what, x -> x.crossed(what));
            add(all, BAD, "orders " + what, x -> x.orders(what));
        }
        for (int cells : new int[] {-1, 4096, 4097, MIN, MAX}) {
            add(all, BAD, "least " + cells, x -> x.least(cells));
        }
    }

    private static void refusedRest(State state, List<Call> all) {
        int n = state.letters();
        for (int far : new int[] {-1, n, 6, MIN, MAX}) {
            add(all, UNKNOWN, "tell 0 " + far, x -> x.tell(0, far));
            add(all, UNKNOWN, "tell " + far + " 0", x -> x.tell(far, 0));
            add(all, UNKNOWN, "tell both " + far, x -> x.tell(far, far));
            for (int what : new int[] {-1, 0, 1, 2, 11}) {
                add(all, UNKNOWN, "rests " + far + " " + what, x -> x.rests(far, what));
                add(all, UNKNOWN, "chance " + far + " " + what, x -> x.chance(far, what, true));
            }
        }
        for (int i = 0; i < n; i++) {
            int letter = i;
            add(all, BAD, "tell both " + i, x -> x.tell(letter, letter));
            if (state.over() == 6) {
                add(all, FULL, "tell a seventh " + i, x -> x.tell(letter, (letter + 1) % n));
            }
            for (int what : new int[] {-1, 2, MIN, MAX}) {
                add(all, BAD, "rests " + i + " " + what, x -> x.rests(letter, what));
            }
            for (int tenths : new int[] {-1, 11, MIN, MAX}) {
                add(all, BAD, "chance " + i + " " + tenths, x -> x.chance(letter, tenths, true));
                add(all, BAD, "chance " + i + " " + tenths + " below", x -> x.chance(letter, tenths, false));
            }
        }
        for (int m : new int[] {0, 31, -1, MIN, MAX}) {
            add(all, BAD, "years " + m, x -> x.years(m));
        }
        for (int slot : new int[] {-1, 2, MIN, MAX, 32, -32}) {
            add(all, UNKNOWN, "keep " + slot, x -> x.keep(slot));
            add(all, UNKNOWN, "again " + slot, x -> x.again(slot));
        }
        for (int slot = 0; slot <= 1; slot++) {
            int which = slot;
            if (!state.hasKept(slot)) {
                add(all, LATE, "again " + slot, x -> x.again(which));
            }
        }
    }

    /** In what follows nothing is changed: every question, over all of what it takes. */
    private static List<Call> asked(State state) {
        List<Call> all = new ArrayList<>();
        add(all, 0, "fault", x -> x.fault());
        add(all, 0, "about", x -> sum(0, 8, x::about));
        add(all, 0, "cell", x -> sum(0, 11, c -> x.cell(c, 0) + x.cell(c, 1)));
        add(all, 0, "later", x -> sum(0, 9, x::later));
        add(all, 0, "shows", x -> sum(0, 6, i -> x.shows((1 << i) - 1)));
        add(all, 0, "fits", x -> sum(0, 2, x::fits));
        add(all, 0, "keeps", x -> sum(0, 1, x::keeps));
        add(all, 0, "twice", x -> sum(0, 2, x::twice));
        add(all, 0, "crossed", x -> sum(0, 1, x::crossed));
        add(all, 0, "least", x -> sum(0, 11, c -> x.least(1 << c)) + x.least(0) + x.least(4095));
        add(all, 0, "orders", x -> sum(0, 1, x::orders));
        add(all, 0, "letter", x -> sum(0, 5, i -> x.letter(i, 0) + x.letter(i, 4)));
        add(all, 0, "lasts", x -> sum(0, 5, x::lasts));
        add(all, 0, "share", x -> sum(0, 5, i -> x.share(i, true) + x.share(i, false)));
        add(all, 0, "rests", x -> sum(0, 5, i -> x.rests(i, 0) + x.rests(i, 1)));
        add(all, 0, "chance", x -> sum(0, 5, i -> x.chance(i, 5, true) + x.chance(i, 10, false)));
        return all;
    }

    private interface OfInt {
        int at(int i);
    }

    private static long sum(int from, int to, OfInt f) {
        long all = 0;
        for (int i = from; i <= to; i++) {
            all += f.at(i);
        }
        return all;
    }

    /** Each call that changes something changes that alone. */
    private static void taken(State state, Map<String, String> due) {
        Map<String, ToLongFunction<BlottedFirst>> all = new LinkedHashMap<>();
        all.put("write: TEXT", x -> x.write('B'));
        all.put("wipe: TEXT", x -> x.wipe());
        all.put("press the first: SHEET ACTS", x -> x.press(0));
        all.put("press the last: SHEET ACTS", x -> x.press(5));
        all.put("day: SHEET ACTS", x -> x.day());
        all.put("rub: SHEET ACTS", x -> x.rub(0));
        all.put("change: SHEET ACTS", x -> x.change());
        all.put("undo: SHEET ACTS", x -> x.undo());
        all.put("tell: OVER", x -> x.tell(0, 1));
        all.put("untell: OVER", x -> x.untell());
        all.put("seed: SEED", x -> x.seed(4711));
        all.put("years 1: SEED", x -> x.years(1));
        all.put("years 30: SEED", x -> x.years(30));
        all.put("keep 0: SLOT0", x -> x.keep(0));
        all.put("keep 1: SLOT1", x -> x.keep(1));
        all.put("again 0: SHEET ACTS", x -> x.again(0));
        all.put("again 1: SHEET ACTS", x -> x.again(1));
        if (!state.fault()) {
            all.put("office: LETTERS SHEET ACTS SLOT0 SLOT1", x -> x.office());
        }
        for (Map.Entry<String, ToLongFunction<BlottedFirst>> one : all.entrySet()) {
            String[] told = one.getKey().split(": ");
            changesOnly(state, new Call(told[0], one.getValue(), 0), told[1], due, false);
        }
    }

    /** Of several what is told first: in the order in which a promise names them. */
    private static void toldFirst() {
        BlottedFirst x = new BlottedFirst();
        Offices.put(x, SIX + "?????????");
        C.due("write: BAD ahead of FULL", x.write(-1), BAD);
        C.due("write: BAD ahead of FULL, above", x.write(256), BAD);
        C.due("write: FULL alone", x.write(255), FULL);
        x = Offices.office("BL0110L1110");
        C.due("letter: UNKNOWN ahead of BAD", x.letter(2, 5), UNKNOWN);
        C.due("letter: BAD alone", x.letter(1, 5), BAD);
        C.due("rub: BAD ahead of LATE", x.rub(12), BAD);
        C.due("rub: LATE alone", x.rub(11), LATE);
        C.due("rests: UNKNOWN ahead of BAD", x.rests(2, 2), UNKNOWN);
        C.due("rests: BAD alone", x.rests(1, 2), BAD);
        C.due("chance: UNKNOWN ahead of BAD", x.chance(2, 11, true), UNKNOWN);
        C.due("chance: BAD alone", x.chance(1, 11, true), BAD);
        for (int i = 0; i < 6; i++) {
            C.due("tell", x.tell(i % 2, 1 - i % 2), i + 1);
        }
        C.due("tell: UNKNOWN ahead of BAD and FULL", x.tell(2, 2), UNKNOWN);
        C.due("tell: UNKNOWN, the other one, ahead of FULL", x.tell(1, 2), UNKNOWN);
        C.due("tell: BAD ahead of FULL", x.tell(1, 1), BAD);
        C.due("tell: FULL alone", x.tell(1, 0), FULL);
        C.due("again: UNKNOWN ahead of LATE", x.again(2), UNKNOWN);
        C.due("again: LATE alone", x.again(1), LATE);
    }
}
