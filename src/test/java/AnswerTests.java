import java.math.BigInteger;

/**
 * The document's terms 2 and 3, sentence by sentence: what each one holds at its last value that is taken, and at the
 * first one that is not. Each method stands for the sentence that is told above it.
 */
public final class AnswerTests {
    private static final int UNKNOWN = Offices.UNKNOWN, BAD = Offices.BAD, LATE = Offices.LATE;
    private static final int FULL = Offices.FULL, NONE = Offices.NONE;
    private static final Check C = new Check("AnswerTests");
    private static final String SIX = Offices.ofLetters(6);

    public static void main(String[] args) {
        kindsOfQuestions();
        inDays();
        inDaysIsWhatDaysLeave();
        lasts();
        lastsFirst();
        showsSets();
        showsOnANewSheet();
        fitsNone();
        fitsInAllInNone();
        fitsIsWhatIsShown();
        keepsMost();
        keepsOfLikeOnes();
        twiceAtMost();
        twiceCapped();
        twiceNone();
        twiceInAll();
        crossedNone();
        crossedFirst();
        crossedThird();
        leastCells();
        leastNone();
        leastOfLikeOnes();
        leastPressedNow();
        shareOfMany();
        shareOfCells();
        overSixAtMost();
        overOfLettersGone();
        ordersOfMany();
        ordersNone();
        ordersFirst();
        restsByHand();
        chanceTenths();
        chanceOfTheFour();
        chanceCanNotBe();
        seedIsALong();
        yearsAtMost();
        yearsLots();
        yearsAreActs();
        slots();
        slotsNone();
        slotsKeep();
        C.end();
    }

    /** What is asked (what = 0, 1, ..): the last one and the first one that is not, on a sheet with ink and without. */
    private static void kindsOfQuestions() {
        for (BlottedFirst x : new BlottedFirst[] {Offices.office(SIX), Offices.pressed(SIX, 0, 3)}) {
            int[] far = {-1, 100, -100, Integer.MAX_VALUE, Integer.MIN_VALUE};
            for (int i = -1; i < far.length; i++) {
                C.due("about", x.about(i < 0 ? 9 : far[i]), BAD);
                C.due("letter", x.letter(5, i < 0 ? 5 : far[i]), BAD);
                C.due("cell, ink", x.cell(0, i < 0 ? 2 : far[i]), BAD);
                C.due("fits", x.fits(i < 0 ? 3 : far[i]), BAD);
                C.due("keeps", x.keeps(i < 0 ? 2 : far[i]), BAD);
                C.due("twice", x.twice(i < 0 ? 3 : far[i]), BAD);
                C.due("crossed", x.crossed(i < 0 ? 2 : far[i]), BAD);
                C.due("orders", x.orders(i < 0 ? 2 : far[i]), BAD);
                C.due("rests", x.rests(5, i < 0 ? 2 : far[i]), BAD);
            }
            C.due("the last of about", x.about(8), 31);
            C.due("the last of letter", x.letter(0, 4), x.about(4) & 1);
            C.due("the last of fits", x.fits(2), 63 & ~x.about(2));
            C.due("the last of keeps", x.keeps(1), 0b010001);
            C.due("the last of twice", x.twice(2), 63 & ~x.about(2));
            C.due("the last of crossed", x.crossed(1), NONE);
            C.due("the last of orders", x.orders(1), 123456);
            C.due("the last of rests", x.rests(0, 1), 30);
            C.due("the first of about", x.about(0), 6);
            C.due("the first of letter", x.letter(5, 0), 5);
            C.due("the first of fits", x.fits(0), 1);
            C.due("the first of keeps", x.keeps(0), 2);
            C.due("the first of twice", x.twice(0), 1);
            C.due("the first of crossed", x.crossed(0), 0);
            C.due("the first of orders", x.orders(0), 720);
            C.due("the first of rests", x.rests(0, 0), 1);
        }
    }

    /** IN n DAYS (0 .. 9): SHOWN then. */
    private static void inDays() {
        for (int ink = 0; ink <= 9; ink++) {
            BlottedFirst x = Offices.office("BL8810L0111");
            Offices.often(x, 0, ink);
            for (int n = 0; n <= 9; n++) {
                C.due("ink " + ink + " in " + n + " days", x.later(n), n < ink ? 1 << 11 : 0);
            }
            C.due("in -1 days", x.later(-1), BAD);
            C.due("in 10 days", x.later(10), BAD);
            C.due("the day stays", x.about(1), 0);
            C.due("the ink stays", x.about(3), ink);
        }
    }

    /** .. if nothing else is done: just what so many days leave. */
    private static void inDaysIsWhatDaysLeave() {
        for (int n = 0; n <= 9; n++) {
            BlottedFirst x = Offices.pressed("BL0910L0432L5530L8832L2121L3210", 0, 1, 2, 3, 3, 4, 5, 3);
            int then = x.later(n);
            Offices.days(x, n);
            C.due("in " + n + " days", then, x.about(2));
        }
    }

    /** LASTS: behind how many DAYS (0 .. 9) a LETTER can first not be READ. */
    private static void lasts() {
        for (int ink = 0; ink <= 9; ink++) {
            for (String letter : new String[] {"L0110", "L8810"}) {
                BlottedFirst x = Offices.office("B" + letter);
                Offices.often(x, 0, ink);
                C.due("lasts, by ink " + ink, x.lasts(0), ink);
            }
        }
        BlottedFirst x = Offices.pressed("BL0330L0110L4910L7110", 0, 0, 0, 3, 2);
        C.due("nine days", x.lasts(0), 9);
        C.due("one that can not be read", x.lasts(1), 0);
        C.due("one of two cells by the lesser one", x.lasts(2), 1);
        C.due("the one behind the last", x.lasts(4), UNKNOWN);
        C.due("the one ahead of the first", x.lasts(-1), UNKNOWN);
    }

    /** .. first: one that can not be READ now lasts 0 days, though it can be READ later. */
    private static void lastsFirst() {
        BlottedFirst x = Offices.pressed("BL0120L0210L0130", 0, 1);
        C.due("two are shown", x.about(2), 3);
        C.due("later one is", x.later(1), 1);
        C.due("not now", x.lasts(0), 0);
        C.due("nor the like one", x.lasts(2), 0);
        x.day();
        C.due("now it is", x.lasts(0), 1);
        C.due("and the like one", x.lasts(2), 1);
        x.day();
        C.due("not any more", x.lasts(0), 0);
    }

    /** A set: bits of LETTERS that there are. */
    private static void showsSets() {
        for (int many = 0; many <= 6; many++) {
            BlottedFirst x = Offices.office(Offices.ofLetters(many));
            for (int set = 0; set < 1 << many; set++) {
                C.due("set " + set + " of " + many, x.shows(set), set);
            }
            C.due("the first that is not, of " + many, x.shows(1 << many), BAD);
            C.due("one letter that there is not, beside those that are", x.shows((1 << many + 1) - 1), BAD);
            C.due("-1 of " + many, x.shows(-1), BAD);
            C.due("far bits of " + many, x.shows(1 << 31), BAD);
            C.due("far bits and a letter of " + many, x.shows(1 << 30 | 1), BAD);
        }
    }

    /** A set of LETTERS on a new SHEET: what is SHOWN, if each of them was PRESSED once there. */
    private static void showsOnANewSheet() {
        BlottedFirst x = Offices.pressed("BL0310L1313L8811L4921L0132", 0, 3, 4);
        C.due("none", x.shows(0), 0);
        C.due("turned", x.shows(2), 0b11000);
        C.due("without force", x.shows(4), 0);
        C.due("all", x.shows(31), 0b10011011);
        C.due("the sheet is as it was", x.about(2), 0b10010011);
    }

    /** FITS: .. NONE (of the latter two): there are none. */
    private static void fitsNone() {
        BlottedFirst x = Offices.pressed("BL0310L4111", 0);
        C.due("one letter, and one without force", x.fits(0), 2);
        C.due("in all", x.fits(1), 1);
        C.due("in none", x.fits(2), 0);
        x.rub(0);
        C.due("half of it by none", x.fits(0), 0);
        C.due("none: in all", x.fits(1), NONE);
        C.due("none: in none", x.fits(2), NONE);
        C.due("none: what is asked first", x.fits(3), BAD);
        x.rub(1);
        C.due("nothing is shown by the empty set", x.fits(0), 2);
        C.due("nothing: in all", x.fits(1), 0);
        C.due("nothing: in none", x.fits(2), 1);
    }

    /** .. how many; LETTERS in all; in none. */
    private static void fitsInAllInNone() {
        BlottedFirst x = Offices.pressed("BL0110L0210L0310L4110L0410L8810", 0, 1, 5);
        C.due("cells 0, 1, 11", x.fits(0), 5);
        C.due("in all", x.fits(1), 0b100000);
        C.due("in none", x.fits(2), 0b011000);
        x = Offices.pressed("BL0110L0110L0110L0110L0110L0110", 0);
        C.due("six like ones", x.fits(0), 63);
        C.due("none of them in all", x.fits(1), 0);
        C.due("none of them in none", x.fits(2), 0);
        x.day();
        C.due("nothing shown", x.fits(0), 1);
        C.due("all in none", x.fits(2), 63);
        x = Offices.pressed("BL0110L0210L0310L4110", 2);
        C.due("by both halves, by the whole, or by more", x.fits(0), 5);
        C.due("in none is the last one alone", x.fits(2), 8);
        x = Offices.pressed("BL0111L0210L4111", 1);
        C.due("with one without force or not", x.fits(0), 4);
        C.due("no one in none", x.fits(2), 0);
        x = Offices.pressed("BL0111L0210L4110");
        C.due("nothing shown, with one without force or not", x.fits(0), 2);
        C.due("the other two in none", x.fits(2), 6);
        x = Offices.pressed("BL0310L0110L0310L0610", 0);
        C.due("two like ones", x.fits(0), 6);
        C.due("none in all", x.fits(1), 0);
        C.due("the one that shows more in none", x.fits(2), 8);
        x = Offices.pressed(SIX, 0, 1, 2, 3, 4, 5);
        C.due("all six shown", x.fits(0), 1);
        C.due("all in all", x.fits(1), 63);
        C.due("no one in none", x.fits(2), 0);
    }

    /** .. sets by which that is what is SHOWN now: no matter how much INK there is. */
    private static void fitsIsWhatIsShown() {
        BlottedFirst x = Offices.pressed("BL0110L0130", 0, 0, 0, 0);
        C.due("by one, the other, or both", x.fits(0), 3);
        x.day();
        C.due("the same behind a day", x.fits(0), 3);
    }

    /** KEEPS: the set of which most can be READ behind it: how many of it. */
    private static void keepsMost() {
        BlottedFirst x = Offices.office("BL0110L4110L8110");
        C.due("all", x.keeps(0), 3);
        C.due("the last set", x.keeps(1), 7);
        x = Offices.office("BL0111L4111");
        C.due("no one, without force", x.keeps(0), 0);
        C.due("then the empty set", x.keeps(1), 0);
        x = Offices.office("BL0110L0110L0110L0110L0110L0110");
        C.due("six like ones", x.keeps(0), 6);
        C.due("all of them", x.keeps(1), 63);
        x = Offices.office("BL0310L0210L0110");
        C.due("one of three", x.keeps(0), 1);
        C.due("two would show the third, which is not of them", x.keeps(1), 1);
        x = Offices.office("BL0110L0111");
        C.due("one without force is read by the other", x.keeps(0), 2);
        C.due("both are of it", x.keeps(1), 3);
    }

    /** .. of like ones fewer LETTERS, then the least. */
    private static void keepsOfLikeOnes() {
        BlottedFirst x = Offices.office("BL0110L0210L0410L0810");
        C.due("each alone", x.keeps(0), 1);
        C.due("the least", x.keeps(1), 1);
        x = Offices.office("BL0111L0210L0410");
        C.due("the least that can be read", x.keeps(1), 2);
        x = Offices.office("BL1110L0310L2110L4110L3110");
        C.due("most", x.keeps(0), 2);
        C.due("not less than two", Integer.bitCount(x.keeps(1)), 2);
        x = Offices.office("BL0911L3110L0110L0810");
        C.due("two", x.keeps(0), 2);
        C.due("fewer are ahead of the least", x.keeps(1), 0b1010);
        x = Offices.office("BL0110L0210L4110L4210");
        C.due("two of four", x.keeps(0), 2);
        C.due("the least of four like ones", x.keeps(1), 0b0101);
    }

    /** TWICE: rows of how often each LETTER was PRESSED on a new SHEET (0 .. 2 each), by which all INK is as it is now. */
    private static void twiceAtMost() {
        for (int force = 1; force <= 4; force++) {
            for (int times = 0; times <= 2; times++) {
                BlottedFirst x = Offices.office("BL0" + "110/120/130/132".substring(4 * force - 4, 4 * force - 1) + "L4111L5111");
                Offices.often(x, 0, times);
                C.due(times + " times " + force, x.twice(0), 9);
                C.due(times + " times " + force + ": twice in all", x.twice(1), times == 2 ? 1 : 0);
                C.due(times + " times " + force + ": not at all in all", x.twice(2), times == 0 ? 1 : 0);
            }
        }
        BlottedFirst x = Offices.pressed("BL0110", 0, 0, 0);
        C.due("thrice is not taken", x.twice(0), 0);
        x.day();
        C.due("a day later it is twice", x.twice(0), 1);
        x = Offices.office("BL0111L0111L0111L0111L0111L0111");
        C.due("six without force in each row", x.twice(0), 729);
        C.due("not one of them twice in all", x.twice(1), 0);
        C.due("not one of them not at all in all", x.twice(2), 0);
        x = Offices.pressed("BL0110L0110L0110L0110L0110L0110", 0, 0, 0, 0, 0, 0, 0, 0);
        C.due("rows of six that come to 8", x.twice(0), 90);
    }

    /** .. 9 at most: INK of 9 is by 9 or by more. */
    private static void twiceCapped() {
        BlottedFirst x = Offices.pressed("BL0132L0130", 0, 0, 1);
        C.due("ink", x.cell(0, 0), 9);
        C.due("two of 4 and one or two of 3, one of 4 and two of 3", x.twice(0), 3);
        C.due("twice in all", x.twice(1), 0);
        C.due("not at all in all", x.twice(2), 0);
        x = Offices.pressed("BL0130L0120L0110", 0, 0, 1, 2);
        C.due("just 9", x.cell(0, 0), 9);
        C.due("rows by 9 and more", x.twice(0), 6);
        C.due("no one twice in all", x.twice(1), 0);
        C.due("no one not at all in all", x.twice(2), 0);
        x = Offices.pressed("BL0132L0110", 0, 0, 1);
        C.due("9 and 10", x.twice(0), 2);
        C.due("the first one twice in both", x.twice(1), 1);
        C.due("the second one there in both", x.twice(2), 0);
        x = Offices.pressed("BL0132", 0, 0, 0);
        C.due("9 by two of 4 is not", x.twice(0), 0);
    }

    /** .. NONE (of the latter two): there are none. */
    private static void twiceNone() {
        BlottedFirst x = Offices.pressed("BL0310L4111", 0);
        x.rub(1);
        C.due("one cell alone", x.twice(0), 0);
        C.due("twice in all", x.twice(1), NONE);
        C.due("not at all in all", x.twice(2), NONE);
        C.due("what is asked first", x.twice(3), BAD);
        x.change();
        C.due("a new sheet", x.twice(0), 3);
        C.due("a new sheet, twice in all", x.twice(1), 0);
        C.due("a new sheet, not at all in all", x.twice(2), 1);
        x = Offices.pressed("BL0320", 0);
        x.day();
        C.due("ink that no press leaves, though it is shown", x.twice(0), 0);
        C.due("it fits", x.fits(0), 1);
    }

    /** .. LETTERS that are there twice in all; that are there not at all in all. */
    private static void twiceInAll() {
        BlottedFirst x = Offices.pressed("BL0110L1110L2110L3110L4110L8810", 0, 0, 1, 5, 5);
        C.due("one row", x.twice(0), 1);
        C.due("twice", x.twice(1), 0b100001);
        C.due("not at all", x.twice(2), 0b011100);
        x = Offices.pressed("BL0110L0120L4110", 1, 2, 2);
        C.due("two rows", x.twice(0), 2);
        C.due("twice in both", x.twice(1), 4);
        C.due("not at all in one of them only", x.twice(2), 0);
    }

    /** CROSSED: pairs of LETTERS .. by which, on a new SHEET, a third one can be READ: how many; NONE. */
    private static void crossedNone() {
        for (int many = 0; many <= 6; many++) {
            BlottedFirst x = Offices.office(Offices.ofLetters(many));
            C.due("of " + many + " that show one cell each", x.crossed(0), 0);
            C.due("of " + many + ": the first one", x.crossed(1), NONE);
            C.due("of " + many + ": what is not asked", x.crossed(2), BAD);
        }
        BlottedFirst x = Offices.office("BL0310L0110");
        C.due("two are no third", x.crossed(0), 0);
        x = Offices.office("BL0310L0110L0210");
        C.due("three are", x.crossed(0), 1);
        C.due("the last pair of three", x.crossed(1), 120);
        x = Offices.office("BL0110L0210L0410L0710");
        C.due("three that cross are no pair", x.crossed(0), 0);
    }

    /** .. (i less than j) .. the first one (100 times i, 10 times j, and the least third one). */
    private static void crossedFirst() {
        C.due("the least", Offices.office("BL0110L0210L0310").crossed(1), 12);
        C.due("once", Offices.office("BL0110L0210L0310").crossed(0), 1);
        C.due("the other way round is no other pair", Offices.office("BL0210L0110L0310").crossed(1), 12);
        BlottedFirst x = Offices.office("BL4110L8110L8911L0310L0110L0210");
        C.due("the last pair of six", x.crossed(1), 453);
        C.due("it alone", x.crossed(0), 1);
        x = Offices.office("BL0410L0110L0610L0210L0510L0310");
        C.due("three pairs", x.crossed(0), 3);
        C.due("the first one by i, then by j", x.crossed(1), 14);
        x = Offices.office("BL0110L0110L0110L0110L0110L0110");
        C.due("each of 15 pairs", x.crossed(0), 15);
        C.due("the first of them", x.crossed(1), 12);
    }

    /** .. the least third one: neither of the pair, and the least of several; it may be ahead of the pair. */
    private static void crossedThird() {
        BlottedFirst x = Offices.office("BL0310L4110L0110L0210");
        C.due("the third one is ahead of the pair", x.crossed(1), 230);
        x = Offices.office("BL0110L0210L4110L0330L0310");
        C.due("the least third", x.crossed(1), 13);
        x = Offices.office("BL0110L4110L4111");
        C.due("a third one without force can be read", x.crossed(1), 12);
        x = Offices.office("BL0110L0110L4110");
        C.due("one of the pair is no third", x.crossed(0), 2);
        C.due("a like one is", x.crossed(1), 21);
        x = Offices.pressed("BL0110L0210L0310L2110", 3);
        C.due("what is on the sheet is nothing to it", x.crossed(1), 12);
    }

    /** LEAST for told CELLS (bits): bits 0 .. 11. */
    private static void leastCells() {
        BlottedFirst x = Offices.office("BL0910L1910L2910L6910L7910L8910");
        int all = 0b111111001111 | 0b000000110000;
        C.due("the last bits", x.least(4095), 63);
        C.due("all are " + all, all, 4095);
        C.due("one bit more", x.least(4096), BAD);
        C.due("one bit more, beside all", x.least(8191), BAD);
        C.due("-1", x.least(-1), BAD);
        C.due("the least int", x.least(Integer.MIN_VALUE), BAD);
        C.due("none told", x.least(0), 0);
    }

    /** .. NONE. */
    private static void leastNone() {
        BlottedFirst x = Offices.office("BL0710L4711L8710");
        C.due("all that can be", x.least(0b011100000111), 5);
        C.due("one that none has", x.least(0b011100001111), NONE);
        C.due("one of a letter without force", x.least(1 << 4), NONE);
        C.due("none told", x.least(0), 0);
        x = Offices.office("B");
        C.due("no letters, none told", x.least(0), 0);
        C.due("no letters, one told", x.least(1), NONE);
    }

    /** .. the fewest LETTERS (of like ones the least). */
    private static void leastOfLikeOnes() {
        BlottedFirst x = Offices.office("BL0110L0210L0410L0310L0610");
        C.due("one of two like ones", x.least(1), 1);
        C.due("one is fewer than two, though greater", x.least(3), 8);
        C.due("two of three like pairs", x.least(7), 0b01100);
        C.due("the last one alone", x.least(6), 16);
        x = Offices.office("BL0110L0110L0110L0110L0110L0110");
        C.due("the least of six", x.least(1), 1);
        x = Offices.office("BL0111L0110");
        C.due("the least that shows", x.least(1), 2);
    }

    /** .. that, PRESSED now, leave all of these SHOWN: with what is SHOWN already. */
    private static void leastPressedNow() {
        BlottedFirst x = Offices.pressed("BL0110L0210L0410L0710", 1);
        C.due("shown already", x.least(2), 0);
        C.due("shown already and one", x.least(3), 1);
        C.due("shown already and two", x.least(7), 8);
        x.day();
        C.due("not shown any more", x.least(2), 2);
        Offices.press(x, 0, 1, 2);
        C.due("all is shown", x.least(7), 0);
    }

    /** SHARE: in each order as likely .. a FRACTION. */
    private static void shareOfMany() {
        for (int many = 1; many <= 6; many++) {
            BlottedFirst x = Offices.office("B" + "L0310".repeat(many));
            for (int i = 0; i < many; i++) {
                C.due("two cells of " + many, x.share(i, true), many % 2 == 0 ? 1 : 2);
                C.due("two cells of " + many + ", below", x.share(i, false), many % 2 == 0 ? many / 2 : many);
            }
            C.due("the one behind the last", x.share(many, true), UNKNOWN);
            C.due("the one ahead of the first", x.share(-1, false), UNKNOWN);
        }
        BlottedFirst x = Offices.office("BL0111L0110L0110");
        C.due("without force, none", x.share(0, true), 0);
        C.due("without force, none in least terms", x.share(0, false), 1);
        C.due("one without force takes no share", x.share(1, false), 2);
    }

    /** .. by how many in the mean CELLS that are SHOWN are more when it has come than they were. */
    private static void shareOfCells() {
        BlottedFirst x = Offices.office("BL0710L0110L0111L0210L0210L8810");
        C.due("half, a third and one", x.share(0, true), 11);
        C.due("below", x.share(0, false), 6);
        C.due("a third", x.share(3, false), 3);
        C.due("alone", x.share(5, true), 1);
        C.due("alone, below", x.share(5, false), 1);
        x = Offices.office("BL8730");
        C.due("three cells, by whatever strength", x.share(0, true), 3);
        C.due("in least terms", x.share(0, false), 1);
        x.press(0);
        C.due("on a new sheet, though this is not", x.share(0, true), 3);
    }

    /** OVER: 6 such at most, none at first. */
    private static void overSixAtMost() {
        BlottedFirst x = Offices.office(SIX);
        C.due("none at first", x.about(7), 0);
        C.due("nothing to untell", x.untell(), 0);
        for (int i = 1; i <= 6; i++) {
            C.due("tell " + i, x.tell(i - 1, i % 6), i);
            C.due("told " + i, x.about(7), i);
        }
        C.due("a seventh", x.tell(0, 2), FULL);
        C.due("there are six", x.about(7), 6);
        C.due("one of the six once more", x.tell(0, 1), FULL);
        C.due("all six are untold", x.untell(), 6);
        C.due("none is left", x.about(7), 0);
        C.due("none is left to untell", x.untell(), 0);
        C.due("orders are free", x.orders(0), 720);
        C.due("the first of six again", x.tell(5, 0), 1);
        C.due("is looked at alone", x.orders(0), 360);
        x = Offices.office(SIX);
        for (int i = 1; i <= 5; i++) {
            x.tell(i, 0);
        }
        C.due("the sixth is taken", x.tell(5, 1), 6);
        C.due("and looked at", x.orders(0), 60);
        x.tell(1, 5);
        C.due("the seventh is not", x.orders(0), 60);
    }

    /** .. (of LETTERS that there are not any more nothing is looked at). */
    private static void overOfLettersGone() {
        int[] due = {1, 1, 1, 3, 12, 60, 360};
        int[] first = {0, 1, 21, 213, 2134, 21345, 213456};
        for (int many = 0; many <= 6; many++) {
            BlottedFirst x = Offices.office(SIX);
            x.tell(0, 1);
            Offices.put(x, Offices.ofLetters(many));
            x.office();
            C.due("0 over 1, of " + many, x.orders(0), due[many]);
            C.due("0 over 1, of " + many + ", first", x.orders(1), first[many]);
            C.due("it stays, of " + many, x.about(7), 1);
        }
        for (int upper = 0; upper < 6; upper++) {
            for (int lower = 0; lower < 6; lower++) {
                for (int many = 0; many <= 6 && upper != lower; many++) {
                    overAmong(upper, lower, many);
                }
            }
        }
        for (int many = 1; many <= 5; many++) {
            BlottedFirst x = Offices.office(SIX);
            x.tell(0, many);
            x.tell(many, 0);
            C.due("a ring", x.orders(0), 0);
            Offices.put(x, Offices.ofLetters(many));
            x.office();
            C.due("a ring by the first letter that is gone", x.orders(1), Integer.parseInt("123456".substring(0, many)));
            Offices.put(x, Offices.ofLetters(many + 1));
            x.office();
            C.due("it is there again", x.orders(0), 0);
        }
    }

    private static void overAmong(int upper, int lower, int many) {
        int[] free = {1, 1, 2, 6, 24, 120, 720};
        boolean there = upper < many && lower < many;
        BlottedFirst x = Offices.office(SIX);
        x.tell(upper, lower);
        Offices.put(x, Offices.ofLetters(many));
        x.office();
        String name = upper + " over " + lower + ", of " + many;
        C.due(name, x.orders(0), there ? free[many] / 2 : free[many]);
        C.holds(name + ", there is a first one", x.orders(1) >= 0);
        Offices.put(x, SIX);
        x.office();
        C.due(name + ", then of six", x.orders(0), 360);
    }

    /** ORDERS of all LETTERS by which all that is OVER is so: how many. */
    private static void ordersOfMany() {
        int[] due = {1, 1, 2, 6, 24, 120, 720};
        for (int many = 0; many <= 6; many++) {
            BlottedFirst x = Offices.office(Offices.ofLetters(many));
            C.due("free orders of " + many, x.orders(0), due[many]);
            C.due("the first of " + many, x.orders(1), many == 0 ? 0 : Integer.parseInt("123456".substring(0, many)));
        }
        BlottedFirst x = Offices.office(SIX);
        for (int i = 0; i < 5; i++) {
            x.tell(i, i + 1);
        }
        C.due("one order", x.orders(0), 1);
        C.due("the greatest", x.orders(1), 654321);
        x.tell(0, 5);
        C.due("no less by what is so already", x.orders(0), 1);
    }

    /** .. NONE: there is no such order. */
    private static void ordersNone() {
        for (int ring = 2; ring <= 6; ring++) {
            BlottedFirst x = Offices.office(SIX);
            for (int i = 0; i < ring - 1; i++) {
                x.tell(i, i + 1);
            }
            C.holds("not yet a ring", x.orders(0) > 0);
            C.holds("and there is a first one", x.orders(1) > 0);
            C.due("it becomes one", x.tell(ring - 1, 0), ring);
            C.due("ring of " + ring, x.orders(0), 0);
            C.due("ring of " + ring + ", first", x.orders(1), NONE);
            C.due("ring of " + ring + ", what is not asked", x.orders(2), BAD);
        }
    }

    /** .. the first one (as figures, 1 more each, the least as a number; 0: there are no LETTERS). */
    private static void ordersFirst() {
        BlottedFirst x = Offices.office(SIX);
        x.tell(0, 5);
        C.due("0 lies over 5", x.orders(1), 234561);
        x.tell(1, 3);
        C.due("1 lies over 3", x.orders(1), 342561);
        x.tell(2, 1);
        C.due("2 lies over 1", x.orders(1), 423561);
        x = Offices.office(SIX);
        x.tell(5, 0);
        C.due("it is so in the first one", x.orders(1), 123456);
        C.due("in half of all", x.orders(0), 360);
        C.due("no letters", Offices.office("B").orders(1), 0);
        C.due("one letter", Offices.office("BL8933").orders(1), 1);
    }

    /** RESTS: a HEAVY one can not be PRESSED by less than 1, a LIGHT one not by 3; what it is pressed by is not its strength. */
    private static void restsByHand() {
        for (int s = 1; s <= 3; s++) {
            BlottedFirst x = Offices.office("BL01" + s + "0L01" + s + "1L01" + s + "2L01" + s + "3");
            int[] first = {30, 0, 30, 30};
            for (int k = 0; k <= 3; k++) {
                C.due("pairs by hand " + k, x.rests(k, 0), 1);
                C.due("the first one by hand " + k, x.rests(k, 1), first[k]);
            }
            C.due("the one behind the last", x.rests(4, 0), UNKNOWN);
            C.due("the one ahead of the first", x.rests(-1, 1), UNKNOWN);
        }
    }

    private static void chance(String when, BlottedFirst x, int letter, int tenths, long above, long below) {
        long divisor = BigInteger.valueOf(above).gcd(BigInteger.valueOf(below)).longValue();
        C.due(when + ", " + tenths + " tenths", x.chance(letter, tenths, true), above / divisor);
        C.due(when + ", " + tenths + " tenths, below", x.chance(letter, tenths, false), below / divisor);
    }

    /** CHANCE: x tenths (0 .. 10): .. a FRACTION, in least terms. */
    private static void chanceTenths() {
        BlottedFirst one = Offices.pressed("BL8810L8110", 0);
        BlottedFirst three = Offices.pressed("BL5710L5710", 0);
        BlottedFirst four = Offices.pressed("BL0110L0910L0610", 1, 2);
        for (int x = 0; x <= 10; x++) {
            int stays = 10 - x;
            chance("one cell stays", one, 0, x, stays, 10);
            chance("one is not shown", one, 1, x, 0, 1);
            chance("three stay", three, 1, x, stays * stays * stays, 1000);
            chance("one stays of four", four, 0, x, stays * x * x * x, 10000);
            chance("two stay of four", four, 1, x, stays * stays * x * x, 10000);
        }
        C.due("x -1", one.chance(0, -1, true), BAD);
        C.due("x 11", one.chance(0, 11, true), BAD);
        C.due("x -1, below", one.chance(1, -1, false), BAD);
        C.due("x 11, below", one.chance(1, 11, false), BAD);
        C.due("the one behind the last", one.chance(2, 0, true), UNKNOWN);
        C.due("the one ahead of the first", one.chance(-1, 10, true), UNKNOWN);
        C.due("nothing fades by it", one.about(2), 1 << 11);
    }

    /** .. each CELL that is SHOWN: those that are none of its four do not count. */
    private static void chanceOfTheFour() {
        for (int cell = 0; cell < 12; cell++) {
            BlottedFirst x = Offices.pressed("BL4110" + Offices.atCell(cell), 0, 1);
            boolean other = cell > 4 && cell < 8;
            chance("with cell " + cell, x, 0, 3, other ? 21 : 7, other ? 100 : 10);
        }
    }

    /** .. that a LETTER can be READ then: what is not SHOWN now is not then. */
    private static void chanceCanNotBe() {
        BlottedFirst x = Offices.pressed("BL0310L0110L0410L0311", 1);
        for (int tenths = 0; tenths <= 10; tenths++) {
            chance("half of it", x, 0, tenths, 0, 1);
            chance("the one that is shown", x, 1, tenths, 10 - tenths, 10);
        }
        x.press(2);
        chance("the other must fade", x, 1, 0, 0, 1);
        chance("the other must fade", x, 1, 10, 0, 1);
        chance("the other must fade", x, 1, 5, 1, 4);
        x.press(0);
        x.rub(2);
        chance("one without force that others show", x, 3, 1, 81, 100);
    }

    /** THE SEED, a long; 0 at first: any long is taken. */
    private static void seedIsALong() {
        BlottedFirst x = new BlottedFirst();
        long was = 0;
        long[] seeds = {1, -1, Long.MAX_VALUE, Long.MIN_VALUE, 1L << 32, -(1L << 32), Integer.MAX_VALUE, Integer.MIN_VALUE, 0};
        for (long seed : seeds) {
            C.due("seed " + seed, x.seed(seed), was);
            was = seed;
        }
        C.due("the last one", x.seed(9), 0);
        C.due("no act", x.about(6), 0);
    }

    private static final BigInteger WORD = BigInteger.ONE.shiftLeft(64);

    private static BigInteger next(long seed) {
        return BigInteger.valueOf(seed).multiply(new BigInteger("6364136223846793005"))
            .add(new BigInteger("1442695040888963407")).mod(WORD);
    }

    private static int lot(long seed) {
        return next(seed).shiftRight(33).mod(BigInteger.valueOf(9)).intValue();
    }

    /** YEARS: m times (1 .. 30); 64 bits, wrapping. */
    private static void yearsAtMost() {
        long[] seeds = {0, 1, -1, Long.MAX_VALUE, Long.MIN_VALUE, 1442695040888963407L, -77777777777L};
        for (long seed : seeds) {
            long x = seed;
            BlottedFirst a = Offices.pressed(SIX, 0, 1, 2, 3, 4, 5);
            a.seed(seed);
            for (int m = 1; m <= 30; m++) {
                x = next(x).longValue();
                a.years(m);
                C.due("the seed behind " + m, a.seed(seed), x);
            }
            C.due("m 0", a.years(0), BAD);
            C.due("m 31", a.years(31), BAD);
            C.due("m -1", a.years(-1), BAD);
            C.due("the seed stays", a.seed(0), seed);
        }
        BlottedFirst x = Offices.office("B");
        C.due("none to read in 30", x.years(30), 0);
        C.due("none to read in 1", x.years(1), 0);
        C.due("none to read in 31", x.years(31), BAD);
    }

    /** 0 .. 5 that LETTER is PRESSED, if there is such a one, 6, 7 A DAY, 8 CHANGED: how many LETTERS can be READ then. */
    private static void yearsLots() {
        for (int many = 0; many <= 6; many++) {
            String text = "B" + "L0120L1110L4110L4210L8132L8110".substring(0, 5 * many);
            for (int lot = 0; lot <= 8; lot++) {
                BlottedFirst x = Offices.office(text);
                BlottedFirst y = Offices.office(text);
                Offices.press(x, 0, 2, 4);
                Offices.press(y, 0, 2, 4);
                int seed = 0;
                while (lot(seed) != lot) {
                    seed++;
                }
                x.seed(seed);
                doLot(y, lot);
                C.due("lot " + lot + " of " + many, x.years(1), Integer.bitCount(y.about(4)));
            }
        }
    }

    private static void doLot(BlottedFirst y, int lot) {
        if (lot <= 5) {
            y.press(lot);
        } else if (lot <= 7) {
            y.day();
        } else {
            y.change();
        }
    }

    /** .. each time, together. (Nothing changes but THE SEED.) They are as if they were done here, one behind the other. */
    private static void yearsAreActs() {
        String text = "BL0110L0220L4130L5210L8111L8832";
        for (int m = 1; m <= 30; m++) {
            BlottedFirst x = Offices.pressed(text, 5, 1);
            BlottedFirst y = Offices.pressed(text, 5, 1);
            long seed = 1000L * m - 15000L;
            x.seed(seed);
            int together = 0;
            for (int i = 0; i < m; i++) {
                doLot(y, lot(seed));
                seed = next(seed).longValue();
                together += Integer.bitCount(y.about(4));
            }
            String was = Offices.sheetOf(x);
            C.due(m + " years", x.years(m), together);
            C.same("the sheet and the day stay", Offices.sheetOf(x), was);
            C.due("acts", x.about(6), 2);
            C.due("the seed", x.seed(0), seed);
        }
    }

    /** SLOTS 0 .. 1. */
    private static void slots() {
        BlottedFirst x = Offices.pressed("BL0110", 0);
        x.day();
        C.due("keep -1", x.keep(-1), UNKNOWN);
        C.due("keep 2", x.keep(2), UNKNOWN);
        C.due("again -1", x.again(-1), UNKNOWN);
        C.due("again 2", x.again(2), UNKNOWN);
        C.due("nothing is kept by it in 0", x.again(0), LATE);
        C.due("nothing is kept by it in 1", x.again(1), LATE);
        C.due("keep 0", x.keep(0), 1);
        C.due("again -1 then", x.again(-1), UNKNOWN);
        C.due("again 2 then", x.again(2), UNKNOWN);
        C.due("keep 1", x.keep(1), 1);
        C.due("again 0", x.again(0), 1);
        C.due("again 1", x.again(1), 1);
    }

    /** LATE: none were kept: in this one. */
    private static void slotsNone() {
        for (int slot = 0; slot <= 1; slot++) {
            BlottedFirst x = Offices.pressed("BL0110", 0);
            C.due("none in " + slot, x.again(slot), LATE);
            C.due("the acts stay", x.about(6), 1);
            x.keep(1 - slot);
            C.due("none in " + slot + ", one in the other", x.again(slot), LATE);
            C.due("the acts stay then", x.about(6), 1);
            C.due("one in the other", x.again(1 - slot), 0);
            C.due("no acts when one goes on", x.about(6), 0);
            C.due("none to undo", x.undo(), LATE);
            C.due("still none in " + slot, x.again(slot), LATE);
            C.due("it stays in the other", x.again(1 - slot), 0);
        }
        BlottedFirst x = Offices.office("B");
        C.due("a new sheet is kept as well", x.keep(1), 0);
        C.due("and gone on from", x.again(1), 0);
    }

    /** SLOTS keep the SHEET, THE DAY. */
    private static void slotsKeep() {
        BlottedFirst x = Offices.pressed("BL0320L1130L8832", 0, 1);
        Offices.days(x, 1);
        String first = Offices.sheetOf(x);
        C.due("keep 0", x.keep(0), 1);
        C.due("keep is no act", x.about(6), 3);
        C.same("keep changes no sheet", Offices.sheetOf(x), first);
        Offices.days(x, 1);
        x.press(2);
        String second = Offices.sheetOf(x);
        C.due("keep 1", x.keep(1), 2);
        x.change();
        C.due("again 0", x.again(0), 1);
        C.same("as it was kept", Offices.sheetOf(x), first);
        C.due("the next day", x.day(), 2);
        x.rub(1);
        C.due("again 1", x.again(1), 2);
        C.same("as that was kept", Offices.sheetOf(x), second);
        C.due("keep 0 anew", x.keep(0), 2);
        x.change();
        C.due("again 0 anew", x.again(0), 2);
        C.same("the later one is kept", Offices.sheetOf(x), second);
        C.due("acts behind it", x.about(6), 0);
        x.day();
        C.due("an act can be undone", x.undo(), 0);
        C.same("to what was kept", Offices.sheetOf(x), second);
        C.due("no further", x.undo(), LATE);
    }
}
