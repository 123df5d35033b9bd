import java.util.ArrayDeque;
import java.util.ArrayList;
import java.util.List;

/**
 * The document's term 1, sentence by sentence: what each one holds at its last value that is taken, and at the first
 * one that is not. Each method stands for the sentence that is told above it.
 */
public final class TermTests {
    private static final int UNKNOWN = Offices.UNKNOWN, BAD = Offices.BAD, LATE = Offices.LATE;
    private static final int FULL = Offices.FULL, NONE = Offices.NONE;
    private static final Check C = new Check("TermTests");
    private static final String SIX = Offices.ofLetters(6);

    public static void main(String[] args) {
        cellsInARow();
        inkNineAtMost();
        inkZeroAtLeast();
        lettersSixAtMost();
        textFortyAtMost();
        bytesZeroTo255();
        officeOfNoneOrMore();
        eachByteOfAnOffice();
        faultWhateverComesBehind();
        faultItsLengthSetAside();
        faultItsLength();
        atFirstNoLetters();
        whatTheNewOfficeMakesNew();
        whatTheNewOfficeLeaves();
        itsCellsAndForce();
        pressedWithoutForce();
        pressedIsOnTop();
        aDay();
        wiped();
        changed();
        shown();
        canBeRead();
        justItsCells();
        actsFourteenAtMost();
        actsOfEachKind();
        actsInTurns();
        whatIsNoAct();
        C.end();
    }

    /** A SHEET has CELLS 0 .. 11 in a row. */
    private static void cellsInARow() {
        for (int cell = 0; cell < 12; cell++) {
            BlottedFirst x = Offices.pressed("B" + Offices.atCell(cell), 0);
            for (int other = 0; other < 12; other++) {
                C.due("ink at " + other + " of a letter at " + cell, x.cell(other, 0), other == cell ? 1 : 0);
                C.due("top at " + other + " of a letter at " + cell, x.cell(other, 1), other == cell ? 0 : NONE);
            }
            C.due("shown, as bits", x.about(2), 1 << cell);
            C.due("on top there", x.about(5), 1);
            C.due("all ink", x.about(3), 1);
            C.due("can be read", x.about(4), 1);
            C.due("by the set", x.shows(1), 1 << cell);
            C.due("later", x.later(0), 1 << cell);
            C.due("share", x.share(0, true), 1);
            C.due("fits", x.fits(1), 1);
            C.due("twice", x.twice(0), 1);
            C.due("least for it on a new sheet", Offices.office("B" + Offices.atCell(cell)).least(1 << cell), 1);
            C.due("rub", x.rub(cell), 1);
        }
        BlottedFirst x = Offices.pressed("BL0130L8830", 0, 1);
        C.due("the first cell", x.cell(0, 0), 3);
        C.due("one ahead of it", x.cell(-1, 0), BAD);
        C.due("one ahead of it, on top", x.cell(-1, 1), BAD);
        C.due("the last cell", x.cell(11, 0), 3);
        C.due("one behind it", x.cell(12, 0), BAD);
        C.due("one behind it, on top", x.cell(12, 1), BAD);
        C.due("rub ahead of the first", x.rub(-1), BAD);
        C.due("rub behind the last", x.rub(12), BAD);
        C.due("rub the first", x.rub(0), 3);
        C.due("rub the last", x.rub(11), 3);
    }

    /** INK 0 .. 9: each of ITS CELLS has so much more INK (9 at most). */
    private static void inkNineAtMost() {
        for (int force = 1; force <= 4; force++) {
            for (int ink = 0; ink <= 12; ink++) {
                BlottedFirst x = Offices.office("BL0110L0120L0130L0132");
                Offices.often(x, 0, ink);
                int had = Math.min(9, ink);
                C.due("ink by " + ink + " of force 1", x.cell(0, 0), had);
                C.due("press by " + force + " onto it", x.press(force - 1), 1);
                C.due("ink by " + force + " onto " + had, x.cell(0, 0), Math.min(9, had + force));
                C.due("all ink", x.about(3), Math.min(9, had + force));
                x.day();
                C.due("what is above 9 is not kept for the next day", x.cell(0, 0), Math.min(9, had + force) - 1);
            }
        }
        BlottedFirst x = Offices.pressed("BL0330L0132L0232", 0, 0, 1);
        C.due("one cell is full", x.cell(0, 0), 9);
        C.due("the other is not", x.cell(1, 0), 6);
        x.press(2);
        C.due("now it is", x.cell(1, 0), 9);
        C.due("a letter that is pressed onto full cells", x.press(1), 2);
        C.due("is on top there", x.cell(0, 1), 1);
    }

    /** Each CELL has 1 less INK (0 at least). */
    private static void inkZeroAtLeast() {
        for (int ink = 0; ink <= 9; ink++) {
            BlottedFirst x = Offices.office("BL0110");
            Offices.often(x, 0, ink);
            for (int days = 1; days <= 11; days++) {
                C.due("a day", x.day(), days);
                C.due("ink of " + ink + " behind " + days, x.cell(0, 0), Math.max(0, ink - days));
                C.due("all ink of " + ink + " behind " + days, x.about(3), Math.max(0, ink - days));
            }
            x.press(0);
            C.due("not below 0: a press shows at once", x.cell(0, 0), 1);
        }
    }

    /** LETTERS are 0, 1, .. (6 at most). */
    private static void lettersSixAtMost() {
        for (int many = 0; many <= 6; many++) {
            BlottedFirst x = new BlottedFirst();
            Offices.put(x, Offices.ofLetters(many));
            C.due("no fault in " + many, x.fault(), NONE);
            C.due("office of " + many, x.office(), many);
            C.due("letters of " + many, x.about(0), many);
            for (int i = 0; i < many; i++) {
                C.due("numbered as they are told", x.letter(i, 0), i);
            }
            C.due("the last one is there", x.letter(many - 1, 0), many == 0 ? UNKNOWN : many - 1);
            C.due("the next one is not", x.letter(many, 0), UNKNOWN);
            C.due("nor can it be pressed", x.press(many), UNKNOWN);
        }
        BlottedFirst x = Offices.office(SIX);
        Offices.put(x, Offices.ofLetters(7));
        C.due("a seventh is a fault", x.fault(), 31);
        C.due("a seventh is refused", x.office(), LATE);
        C.due("the six are there", x.about(0), 6);
    }

    /** THE TEXT is bytes (40 at most). */
    private static void textFortyAtMost() {
        BlottedFirst x = new BlottedFirst();
        Offices.put(x, SIX);
        for (int i = 32; i <= 40; i++) {
            C.due("byte " + i, x.write('?'), i);
        }
        for (int i = 0; i < 3; i++) {
            C.due("byte 41", x.write('B'), FULL);
            C.due("there are 40", x.about(8), 40);
        }
        C.due("the bytes are as they were", x.fault(), 31);
        C.due("wiped are 40", x.wipe(), 40);
        C.due("none are left", x.about(8), 0);
        C.due("wiped are none", x.wipe(), 0);
        for (int i = 1; i <= 40; i++) {
            C.due("room for 40 again", x.write('B'), i);
        }
        C.due("and for no more", x.write('B'), FULL);
    }

    /** A byte (0 .. 255). */
    private static void bytesZeroTo255() {
        BlottedFirst x = new BlottedFirst();
        C.due("255", x.write(255), 1);
        C.due("256", x.write(256), BAD);
        C.due("0", x.write(0), 2);
        C.due("-1", x.write(-1), BAD);
        C.due("two were taken", x.about(8), 2);
        C.due("322 is no B", x.write(322), BAD);
        for (int b = 0; b <= 255; b++) {
            C.due("byte " + b, new BlottedFirst().write(b), 1);
        }
    }

    /** AN OFFICE is a TEXT: B, then LETTERS, none or more. */
    private static void officeOfNoneOrMore() {
        BlottedFirst x = Offices.office(SIX);
        Offices.press(x, 0, 3);
        Offices.put(x, "");
        C.due("not even B", x.fault(), 0);
        C.due("is no office", x.office(), LATE);
        C.due("the letters stay", x.about(0), 6);
        Offices.put(x, "B");
        C.due("B alone", x.fault(), NONE);
        C.due("is an office of none", x.office(), 0);
        C.due("the letters are gone", x.about(0), 0);
        C.due("the first one, too", x.press(0), UNKNOWN);
    }

    private static boolean isDue(int place, int b) {
        if (place == 0) {
            return b == 'B';
        }
        switch (place % 5) {
            case 1: return b == 'L' && place < 31;
            case 2: return "012345678".indexOf(b) >= 0;
            case 3: return "123456789".indexOf(b) >= 0;
            case 4: return "123".indexOf(b) >= 0;
            default: return "0123".indexOf(b) >= 0;
        }
    }

    /** Lpmsk: p (0 .. 8), m (1 .. 9), s (1 .. 3), k (0 .. 3): each byte at each place, with what comes behind it or not. */
    private static void eachByteOfAnOffice() {
        String whole = "BL0110L8933L4521L2222L7811L6313";
        for (int place = 0; place <= 31; place++) {
            for (int b = 0; b <= 255; b++) {
                BlottedFirst x = new BlottedFirst();
                Offices.put(x, whole.substring(0, place));
                x.write(b);
                boolean right = isDue(place, b);
                boolean atEnd = place % 5 == 0 && place <= 30;
                C.due("fault by " + b + " at " + place, x.fault(), right ? atEnd ? NONE : place + 1 : place);
                for (int i = place + 1; i < 31; i++) {
                    x.write(whole.charAt(i));
                }
                C.due("fault by " + b + " at " + place + " in a whole", x.fault(), right ? NONE : place);
                C.due("office by " + b + " at " + place + " in a whole", x.office(), right ? 6 : LATE);
            }
        }
    }

    /** FAULT: the place of the first byte by which THE TEXT can be no OFFICE, whatever came behind it. */
    private static void faultWhateverComesBehind() {
        String[] texts = {"X", "BX", "BL9", "BL80", "BL810", "BL8114", "BL8110B", "BL8110L9", "BL8110L80", "BL8110L8134"};
        for (String text : texts) {
            BlottedFirst x = new BlottedFirst();
            Offices.put(x, text);
            int place = text.length() - 1;
            C.due("fault of " + text, x.fault(), place);
            for (int length = text.length() + 1; length <= 40; length++) {
                x.write(length % 3 == 0 ? 'B' : length % 3 == 1 ? 'L' : '9');
                C.due("fault of " + text + " and more", x.fault(), place);
            }
            C.due("is no office", x.office(), LATE);
        }
    }

    /** .. (its length set aside): that THE TEXT has an end is no fault ahead of it, and a text of 40 has its fault by its bytes. */
    private static void faultItsLengthSetAside() {
        BlottedFirst x = new BlottedFirst();
        Offices.put(x, SIX);
        C.due("six", x.fault(), NONE);
        for (int length = 32; length <= 40; length++) {
            x.write("L0110L0110".charAt(length - 32));
            C.due("a seventh, " + length + " bytes", x.fault(), 31);
        }
        C.due("no more room", x.write('1'), FULL);
        C.due("still", x.fault(), 31);
    }

    /** .. its length, if it is only not at its end; NONE: none. */
    private static void faultItsLength() {
        for (int length = 0; length <= 31; length++) {
            BlottedFirst x = new BlottedFirst();
            Offices.put(x, SIX.substring(0, length));
            boolean atEnd = length > 0 && length % 5 == 1;
            C.due("fault of " + length + " bytes", x.fault(), atEnd ? NONE : length);
            C.due("office of " + length + " bytes", x.office(), atEnd ? length / 5 : LATE);
        }
    }

    /** At first there are no LETTERS. */
    private static void atFirstNoLetters() {
        noLetters("at first", new BlottedFirst());
        noLetters("office of none", Offices.office("B"));
        BlottedFirst x = Offices.pressed(SIX, 0, 1);
        Offices.put(x, "B");
        x.office();
        noLetters("office of none behind one of six", x);
    }

    private static void noLetters(String when, BlottedFirst x) {
        C.due(when + ": letters", x.about(0), 0);
        C.due(when + ": can be read", x.about(4), 0);
        C.due(when + ": on top", x.about(5), 0);
        C.due(when + ": letter", x.letter(0, 0), UNKNOWN);
        C.due(when + ": press", x.press(0), UNKNOWN);
        C.due(when + ": lasts", x.lasts(0), UNKNOWN);
        C.due(when + ": shows no letter", x.shows(0), 0);
        C.due(when + ": shows a letter", x.shows(1), BAD);
        C.due(when + ": no letter fits", x.fits(0), 1);
        C.due(when + ": in all", x.fits(1), 0);
        C.due(when + ": in none", x.fits(2), 0);
        C.due(when + ": keeps", x.keeps(0), 0);
        C.due(when + ": the set", x.keeps(1), 0);
        C.due(when + ": one row", x.twice(0), 1);
        C.due(when + ": twice", x.twice(1), 0);
        C.due(when + ": not at all", x.twice(2), 0);
        C.due(when + ": crossed", x.crossed(0), 0);
        C.due(when + ": the first one", x.crossed(1), NONE);
        C.due(when + ": least for none", x.least(0), 0);
        C.due(when + ": least for one", x.least(1), NONE);
        C.due(when + ": share", x.share(0, true), UNKNOWN);
        C.due(when + ": tell", x.tell(0, 1), UNKNOWN);
        C.due(when + ": orders", x.orders(0), 1);
        C.due(when + ": the first order", x.orders(1), 0);
        C.due(when + ": rests", x.rests(0, 0), UNKNOWN);
        C.due(when + ": chance", x.chance(0, 0, true), UNKNOWN);
        C.due(when + ": years", x.years(30), 0);
        C.due(when + ": a day", x.day(), 1);
        C.due(when + ": is an act", x.about(6), 1);
    }

    /** When THE OFFICE is made anew, the SHEET is new (all INK is 0, nothing is on TOP), THE DAY is 0. No ACTS; what was kept is gone. */
    private static void whatTheNewOfficeMakesNew() {
        for (String text : new String[] {SIX, "B", "BL0110"}) {
            BlottedFirst x = Offices.pressed(SIX, 0, 1, 2, 3, 4, 5);
            Offices.days(x, 1);
            Offices.press(x, 5, 4, 3);
            C.due("keep 0", x.keep(0), 1);
            C.due("keep 1", x.keep(1), 1);
            Offices.put(x, text);
            C.due("office", x.office(), text.length() / 5);
            C.due("the day", x.about(1), 0);
            C.due("shown", x.about(2), 0);
            C.due("ink", x.about(3), 0);
            C.due("read", x.about(4), 0);
            C.due("on top", x.about(5), 0);
            for (int cell = 0; cell < 12; cell++) {
                C.due("ink at " + cell, x.cell(cell, 0), 0);
                C.due("top at " + cell, x.cell(cell, 1), NONE);
            }
            C.due("acts", x.about(6), 0);
            C.due("no act can be undone", x.undo(), LATE);
            C.due("slot 0 is gone", x.again(0), LATE);
            C.due("slot 1 is gone", x.again(1), LATE);
            C.due("the next day is the first", x.day(), 1);
        }
    }

    /** OVER, THE SEED stay. So does THE TEXT: nothing says that it goes. */
    private static void whatTheNewOfficeLeaves() {
        BlottedFirst x = Offices.office(SIX);
        x.tell(0, 1);
        x.tell(1, 2);
        x.seed(Long.MAX_VALUE);
        C.due("office of the same text", x.office(), 6);
        C.due("over", x.about(7), 2);
        C.due("it is looked at", x.orders(1), 321456);
        C.due("bytes", x.about(8), 31);
        C.due("the text", x.fault(), NONE);
        C.due("the seed", x.seed(1), Long.MAX_VALUE);
        C.due("a third time", x.office(), 6);
        C.due("wiped is the text", x.wipe(), 31);
        C.due("an empty one is refused", x.office(), LATE);
        C.due("the seed stays", x.seed(2), 1);
    }

    /** ITS CELLS: bit i stands for CELL p and i; TURNED: p and 3 - i. Its FORCE: s; LIGHT 1 less, HEAVY 1 more. */
    private static void itsCellsAndForce() {
        for (int p = 0; p <= 8; p++) {
            for (int m = 1; m <= 9; m++) {
                for (int s = 1; s <= 3; s++) {
                    for (int k = 0; k <= 3; k++) {
                        cellsAndForce(p, m, s, k);
                    }
                }
            }
        }
    }

    private static void cellsAndForce(int p, int m, int s, int k) {
        int cells = 0;
        for (int i = 0; i < 4; i++) {
            if ((m & 1 << i) != 0) {
                cells |= 1 << (k == 3 ? p + 3 - i : p + i);
            }
        }
        int force = k == 1 ? s - 1 : k == 2 ? s + 1 : s;
        String text = "BL" + p + m + s + k;
        BlottedFirst x = Offices.office(text);
        C.due(text + ": place", x.letter(0, 0), p);
        C.due(text + ": hand", x.letter(0, 1), k);
        C.due(text + ": force", x.letter(0, 2), force);
        C.due(text + ": cells", x.letter(0, 3), cells);
        C.due(text + ": shows", x.shows(1), force == 0 ? 0 : cells);
        C.due(text + ": press", x.press(0), force == 0 ? 0 : Integer.bitCount(cells));
        C.due(text + ": shown", x.about(2), force == 0 ? 0 : cells);
        C.due(text + ": ink", x.about(3), force * Integer.bitCount(cells));
        C.due(text + ": read", x.letter(0, 4), force == 0 ? 0 : 1);
    }

    /** PRESSED: if its FORCE is not 0, .. . One of FORCE 0 is pressed, and changes no CELL. */
    private static void pressedWithoutForce() {
        BlottedFirst x = Offices.office("BL0111L0110L0121");
        C.due("on a new sheet", x.press(0), 0);
        C.due("no ink", x.cell(0, 0), 0);
        C.due("not on top", x.cell(0, 1), NONE);
        C.due("yet an act", x.about(6), 1);
        C.due("the first force that shows", x.press(1), 1);
        C.due("over ink", x.press(0), 1);
        C.due("as much ink", x.cell(0, 0), 1);
        C.due("the other one is on top", x.cell(0, 1), 1);
        C.due("light, of strength 2", x.press(2), 1);
        C.due("adds one", x.cell(0, 0), 2);
        C.due("and is on top", x.cell(0, 1), 2);
        C.due("acts", x.about(6), 4);
        x.undo();
        C.due("undone, the one without force", x.undo(), 2);
        C.due("leaves the ink", x.cell(0, 0), 1);
    }

    /** .. and the LETTER is on TOP there: in each of ITS CELLS, and in no other. */
    private static void pressedIsOnTop() {
        BlottedFirst x = Offices.pressed("BL0730L1320L0910", 0, 1);
        int[] tops = {0, 1, 1, NONE};
        for (int cell = 0; cell < 4; cell++) {
            C.due("top at " + cell, x.cell(cell, 1), tops[cell]);
        }
        C.due("both are on top somewhere", x.about(5), 3);
        x.press(2);
        C.due("the first one is nowhere on top", x.about(5), 6);
        x.press(0);
        C.due("it is again, the second one is not", x.about(5), 5);
        C.due("at the end of its marks", x.cell(3, 1), 2);
    }

    /** A DAY: each CELL has 1 less INK (0 at least: then nothing is on TOP there); THE DAY is one more. */
    private static void aDay() {
        BlottedFirst x = Offices.pressed("BL0120L1110", 0, 1);
        C.due("the first day", x.day(), 1);
        C.due("of 2", x.cell(0, 0), 1);
        C.due("still on top", x.cell(0, 1), 0);
        C.due("of 1", x.cell(1, 0), 0);
        C.due("nothing is on top", x.cell(1, 1), NONE);
        C.due("the second day", x.day(), 2);
        C.due("of 1 now", x.cell(0, 0), 0);
        C.due("nothing is on top now", x.cell(0, 1), NONE);
        C.due("on top anywhere", x.about(5), 0);
        C.due("a day of a dry sheet", x.day(), 3);
        C.due("is an act", x.about(6), 5);
        BlottedFirst y = new BlottedFirst();
        for (int day = 1; day <= 500; day++) {
            C.due("day " + day, y.day(), day);
        }
        C.due("the day is not bounded", y.about(1), 500);
    }

    /** WIPED: a CELL has no INK, nothing is on TOP there. */
    private static void wiped() {
        for (int ink = 1; ink <= 9; ink++) {
            BlottedFirst x = Offices.office("BL0310");
            Offices.often(x, 0, ink);
            C.due("rub of " + ink, x.rub(0), ink);
            C.due("no ink", x.cell(0, 0), 0);
            C.due("nothing on top", x.cell(0, 1), NONE);
            C.due("the other cell has its ink", x.cell(1, 0), ink);
            C.due("and its top", x.cell(1, 1), 0);
            C.due("it has none", x.rub(0), LATE);
            C.due("that is no act", x.about(6), ink + 1);
            C.due("the day stays", x.about(1), 0);
        }
    }

    /** CHANGED: the SHEET is new. THE DAY is no part of the SHEET. */
    private static void changed() {
        BlottedFirst x = Offices.pressed("BL0320L8810", 0);
        Offices.days(x, 1);
        x.press(1);
        C.due("change of three", x.change(), 3);
        C.same("new but for the day", Offices.sheetOf(x), Offices.sheetOf(dayOne()));
        C.due("none to change", x.change(), LATE);
        C.due("acts", x.about(6), 4);
        x.press(1);
        C.due("change of one", x.change(), 1);
        C.due("the next day is the second", x.day(), 2);
    }

    private static BlottedFirst dayOne() {
        BlottedFirst x = new BlottedFirst();
        x.day();
        return x;
    }

    /** SHOWN are CELLS that have INK: 1 is enough, 0 is not. */
    private static void shown() {
        for (int ink = 0; ink <= 9; ink++) {
            BlottedFirst x = Offices.office("BL0110L8810L4111");
            Offices.often(x, 0, ink);
            x.press(1);
            C.due("shown with " + ink, x.about(2), (ink > 0 ? 1 : 0) + (1 << 11));
            C.due("how many, by a press without force", x.press(2), ink > 0 ? 2 : 1);
            C.due("how many, by a change", x.change(), ink > 0 ? 2 : 1);
        }
    }

    /** A LETTER can be READ, if of CELLS p .. p and 3 ..: cells ahead of p and behind p and 3 are nothing to it. */
    private static void canBeRead() {
        for (int place = 0; place <= 8; place++) {
            for (int cell = 0; cell < 12; cell++) {
                BlottedFirst x = Offices.pressed("BL" + place + "110" + Offices.atCell(cell), 0, 1);
                boolean stays = cell <= place || cell > place + 3;
                C.due("at " + place + " with " + cell + " shown", x.letter(0, 4), stays ? 1 : 0);
                C.due("at " + place + " with " + cell + " shown, about", x.about(4) & 1, stays ? 1 : 0);
            }
        }
        BlottedFirst x = Offices.pressed("BL4910L3110L8110", 0, 1, 2);
        C.due("both neighbours are shown", x.letter(0, 4), 1);
    }

    /** .. just ITS CELLS are SHOWN: each of them, and of the four no other one. */
    private static void justItsCells() {
        for (int m = 1; m <= 9; m++) {
            for (int shown = 0; shown < 16; shown++) {
                BlottedFirst x = Offices.office("BL4" + m + "10L4110L5110L6110L7110");
                for (int i = 0; i < 4; i++) {
                    if ((shown & 1 << i) != 0) {
                        x.press(i + 1);
                    }
                }
                C.due("marks " + m + " when " + shown + " is shown", x.letter(0, 4), shown == m ? 1 : 0);
                C.due("marks " + m + " when " + shown + " is shown, about", x.about(4) & 1, shown == m ? 1 : 0);
            }
        }
        BlottedFirst x = Offices.pressed("BL0910L0913", 0);
        C.due("turned, 9 is as it is", x.about(4), 3);
        C.due("no matter who pressed it", x.letter(1, 4), 1);
    }

    /** ACTS are a row (14 at most; when it is full, the first one is forgotten); the last one can be undone. */
    private static void actsFourteenAtMost() {
        for (int many = 0; many <= 45; many++) {
            BlottedFirst x = new BlottedFirst();
            for (int i = 1; i <= many; i++) {
                x.day();
                C.due("acts behind " + i, x.about(6), Math.min(14, i));
            }
            for (int left = Math.min(14, many) - 1; left >= 0; left--) {
                C.due("undo, of " + many, x.undo(), left);
                C.due("acts then", x.about(6), left);
                C.due("the day then", x.about(1), Math.max(0, many - 14) + left);
            }
            C.due("undo of none", x.undo(), LATE);
            C.due("is no act", x.about(6), 0);
            C.due("and leaves the day", x.about(1), Math.max(0, many - 14));
            C.due("a day goes on from there", x.day(), Math.max(0, many - 14) + 1);
            C.due("one act", x.about(6), 1);
        }
        BlottedFirst x = Offices.pressed(SIX, 0, 1, 2, 3, 4, 5, 0, 1, 2, 3, 4, 5, 0, 1, 2);
        for (int i = 0; i < 14; i++) {
            x.undo();
        }
        C.due("of 15 presses the first one stays", x.about(2), 1);
        C.due("and can not be undone", x.undo(), LATE);
    }

    /** ACTS (PRESSED, DAYS, WIPED, CHANGED): each kind is one, and by its undoing INK, TOP and THE DAY are as they were. */
    private static void actsOfEachKind() {
        for (int first = 0; first < 5; first++) {
            for (int second = 0; second < 5; second++) {
                for (int earlier = 0; earlier <= 14; earlier += 7) {
                    undoOf(first, second, earlier);
                }
            }
        }
    }

    private static void undoOf(int first, int second, int earlier) {
        BlottedFirst x = Offices.office("BL0331L1320L1111");
        for (int i = 0; i < earlier; i++) {
            doAct(x, 2);
        }
        Offices.press(x, 0, 1);
        String now = Offices.sheetOf(x);
        int acts = Math.min(14, earlier + 2);
        C.due("acts ahead", x.about(6), acts);
        doAct(x, first);
        String then = Offices.sheetOf(x);
        C.due("acts by kind " + first, x.about(6), Math.min(14, acts + 1));
        C.holds("it did something", first == 4 || !then.equals(now));
        int many = doAct(x, second) < 0 ? 0 : 1;
        if (many == 1) {
            C.due("acts by kinds " + first + " and " + second, x.about(6), Math.min(14, acts + 2));
            C.due("undo of kind " + second, x.undo(), Math.min(14, acts + 2) - 1);
        }
        C.same("undone, kind " + second, Offices.sheetOf(x), then);
        int left = x.about(6) - 1;
        C.due("undo of kind " + first, x.undo(), left);
        C.same("undone, kind " + first, Offices.sheetOf(x), now);
    }

    /** Kinds: pressed, wiped, a day, changed, pressed without force. */
    private static int doAct(BlottedFirst x, int kind) {
        switch (kind) {
            case 0: return x.press(1);
            case 1: return x.rub(1);
            case 2: return x.day();
            case 3: return x.change();
            default: return x.press(2);
        }
    }

    /** The row, when acts are done and undone in turns, past its end. */
    private static void actsInTurns() {
        for (int done = 0; done <= 29; done += 1) {
            for (int undone = 0; undone <= 14; undone += 2) {
                for (int more = 0; more <= 16; more += 1) {
                    turns(done, undone, more);
                }
            }
        }
    }

    private static void turns(int done, int undone, int more) {
        String name = done + " acts, " + undone + " undone, " + more + " more";
        BlottedFirst x = Offices.office("BL0110");
        ArrayDeque<Integer> row = new ArrayDeque<>();
        int now = 0;
        for (int i = 0; i < done + more; i++) {
            for (int u = 0; i == done && u < undone; u++) {
                now = row.isEmpty() ? now : row.removeLast();
                x.undo();
            }
            row.addLast(now);
            if (row.size() > 14) {
                row.removeFirst();
            }
            x.day();
            now++;
        }
        C.due(name + ": acts", x.about(6), row.size());
        List<Integer> left = new ArrayList<>(row);
        for (int i = left.size() - 1; i >= 0; i--) {
            C.due(name + ": undo", x.undo(), i);
            C.due(name + ": the day", x.about(1), left.get(i));
        }
        C.due(name + ": none is left", x.undo(), LATE);
    }

    /** ACTS are these four: nothing else is one. */
    private static void whatIsNoAct() {
        BlottedFirst x = Offices.pressed(SIX, 0, 1);
        x.write('X');
        x.wipe();
        x.keep(0);
        x.tell(0, 1);
        x.untell();
        x.seed(5);
        x.years(3);
        x.later(3);
        C.due("acts", x.about(6), 2);
        C.due("undo", x.undo(), 1);
        C.due("what is undone is the last act", x.about(2), 1);
        x.undo();
        C.due("an undo is no act", x.undo(), LATE);
    }
}
