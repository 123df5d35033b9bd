import java.lang.reflect.Modifier;

/** For each promise of the document: ordinary calls, its edges, and wrong arguments. */
public final class PromiseTests {
    private static final int UNKNOWN = -1, BAD = -2, LATE = -3, FULL = -4, NONE = -9;
    private static final Check C = new Check("PromiseTests");

    public static void main(String[] args) throws Exception {
        constants();
        promise01();
        promise02and03();
        promise04();
        promise05();
        promise06();
        promise07();
        promise08();
        promise09();
        promise10();
        promise11();
        promise12();
        promise13();
        promise14();
        promise15();
        promise16();
        promise17();
        promise18();
        promise19();
        promise20();
        promise21();
        promise22();
        promise23and24();
        promise25();
        promise26();
        promise27();
        promise28and29();
        lots();
        promise30and31();
        queriesChangeNothing();
        farArguments();
        C.end();
    }

    private static void put(BlottedFirst x, String text) {
        x.wipe();
        for (int i = 0; i < text.length(); i++) {
            x.write(text.charAt(i));
        }
    }

    private static BlottedFirst office(String text) {
        BlottedFirst x = new BlottedFirst();
        put(x, text);
        C.due("office of " + text, x.office(), (text.length() - 1) / 5);
        return x;
    }

    private static int faultOf(String text) {
        BlottedFirst x = new BlottedFirst();
        put(x, text);
        return x.fault();
    }

    private static void constants() throws Exception {
        C.due("UNKNOWN", BlottedFirst.class.getField("UNKNOWN").getInt(null), UNKNOWN);
        C.due("BAD", BlottedFirst.class.getField("BAD").getInt(null), BAD);
        C.due("LATE", BlottedFirst.class.getField("LATE").getInt(null), LATE);
        C.due("FULL", BlottedFirst.class.getField("FULL").getInt(null), FULL);
        C.due("NONE", BlottedFirst.class.getField("NONE").getInt(null), NONE);
        C.holds("final class", Modifier.isFinal(BlottedFirst.class.getModifiers()));
    }

    private static void promise01() {
        BlottedFirst x = new BlottedFirst();
        for (int what = 0; what <= 8; what++) {
            C.due("new about " + what, x.about(what), 0);
        }
        for (int cell = 0; cell < 12; cell++) {
            C.due("new ink", x.cell(cell, 0), 0);
            C.due("new top", x.cell(cell, 1), NONE);
        }
        C.due("new letter", x.letter(0, 0), UNKNOWN);
        C.due("new undo", x.undo(), LATE);
        C.due("new again 0", x.again(0), LATE);
        C.due("new again 1", x.again(1), LATE);
        C.due("new seed", x.seed(0), 0);
    }

    private static void promise02and03() {
        BlottedFirst x = new BlottedFirst();
        C.due("wipe empty", x.wipe(), 0);
        C.due("write -1", x.write(-1), BAD);
        C.due("write 256", x.write(256), BAD);
        C.due("refused leave it", x.about(8), 0);
        C.due("write 0", x.write(0), 1);
        C.due("write 255", x.write(255), 2);
        for (int i = 3; i <= 40; i++) {
            C.due("write the " + i, x.write('B'), i);
        }
        C.due("write the 41st", x.write('B'), FULL);
        C.due("BAD is told ahead of FULL", x.write(256), BAD);
        C.due("BAD is told ahead of FULL, below", x.write(-1), BAD);
        C.due("about 8 full", x.about(8), 40);
        C.due("wipe full", x.wipe(), 40);
        C.due("wipe again", x.wipe(), 0);
        C.due("write behind wipe", x.write('B'), 1);
        x = office("BL0110");
        C.due("text stays behind office", x.about(8), 6);
        C.due("wipe leaves the office", x.wipe(), 6);
        C.due("letters stay", x.about(0), 1);
    }

    private static void promise04() {
        String six = "BL0110L0110L0110L0110L0110L0110";
        C.due("empty", faultOf(""), 0);
        C.due("B", faultOf("B"), NONE);
        C.due("b", faultOf("b"), 0);
        C.due("LB", faultOf("LB"), 0);
        C.due("BB", faultOf("BB"), 1);
        C.due("BX", faultOf("BXXXX"), 1);
        C.due("cut behind L", faultOf("BL"), 2);
        C.due("cut behind p", faultOf("BL8"), 3);
        C.due("cut behind m", faultOf("BL89"), 4);
        C.due("cut behind s", faultOf("BL893"), 5);
        C.due("whole", faultOf("BL8933"), NONE);
        C.due("least", faultOf("BL0110"), NONE);
        C.due("p 9", faultOf("BL9110"), 2);
        C.due("p below 0", faultOf("BL/110"), 2);
        C.due("m 0", faultOf("BL0010"), 3);
        C.due("m over 9", faultOf("BL0:10"), 3);
        C.due("s 0", faultOf("BL0100"), 4);
        C.due("s 4", faultOf("BL0140"), 4);
        C.due("k 4", faultOf("BL0114"), 5);
        C.due("k below 0", faultOf("BL011/"), 5);
        C.due("first of two faults", faultOf("BL9190"), 2);
        C.due("second letter cut", faultOf("BL0110L"), 7);
        C.due("second letter's p", faultOf("BL0110L9"), 7);
        C.due("not an L", faultOf("BL0110M0110"), 6);
        C.due("six", faultOf(six), NONE);
        C.due("six and L", faultOf(six + "L"), 31);
        C.due("seven", faultOf(six + "L0110"), 31);
        C.due("six and another", faultOf(six + "B"), 31);
        C.due("forty", faultOf(six + "L0110L011"), 31);
        BlottedFirst x = new BlottedFirst();
        put(x, "B");
        x.write(255);
        C.due("byte 255", x.fault(), 1);
        C.due("fault changes nothing", x.fault(), 1);
    }

    private static void promise05() {
        BlottedFirst x = new BlottedFirst();
        C.due("office of no text", x.office(), LATE);
        x = office("BL0110L0210");
        x.press(0);
        x.day();
        x.press(1);
        x.keep(0);
        x.keep(1);
        x.tell(1, 0);
        x.seed(77);
        x.write('L');
        C.due("office with a fault", x.office(), LATE);
        C.due("letters stay", x.about(0), 2);
        C.due("day stays", x.about(1), 1);
        C.due("sheet stays", x.about(2), 2);
        C.due("acts stay", x.about(6), 3);
        C.due("kept stays", x.again(0), 1);
        x.press(1);
        put(x, "BL1110");
        C.due("office made anew", x.office(), 1);
        C.due("letters", x.about(0), 1);
        C.due("day", x.about(1), 0);
        C.due("shown", x.about(2), 0);
        C.due("tops", x.about(5), 0);
        C.due("acts", x.about(6), 0);
        C.due("over stays", x.about(7), 1);
        C.due("text stays", x.about(8), 6);
        C.due("undo", x.undo(), LATE);
        C.due("again 0", x.again(0), LATE);
        C.due("again 1", x.again(1), LATE);
        C.due("seed stays", x.seed(0), 77);
        C.due("place", x.letter(0, 0), 1);
        C.due("the other is gone", x.letter(1, 0), UNKNOWN);
        C.due("office of the same text", x.office(), 1);
        put(x, "B");
        C.due("office of none", x.office(), 0);
        C.due("no letters", x.about(0), 0);
        C.due("fits of none", x.fits(0), 1);
    }

    private static void promise06() {
        BlottedFirst x = office("BL0120L0210L4131");
        C.due("press 0", x.press(0), 1);
        C.due("press 1", x.press(1), 2);
        C.due("press 2", x.press(2), 3);
        C.due("about 0", x.about(0), 3);
        C.due("about 1", x.about(1), 0);
        C.due("about 2", x.about(2), 0b10011);
        C.due("about 3", x.about(3), 2 + 1 + 2);
        C.due("about 4", x.about(4), 0b100);
        C.due("about 5", x.about(5), 0b111);
        C.due("about 6", x.about(6), 3);
        C.due("about 7", x.about(7), 0);
        x.tell(0, 1);
        C.due("about 7 told", x.about(7), 1);
        C.due("about 8", x.about(8), 16);
        x.day();
        C.due("about 1 then", x.about(1), 1);
        C.due("about 2 then", x.about(2), 0b10001);
        C.due("about 3 then", x.about(3), 2);
        C.due("about 4 then", x.about(4), 0b101);
        C.due("about 5 then", x.about(5), 0b101);
        C.due("about -1", x.about(-1), BAD);
        C.due("about 9", x.about(9), BAD);
        x = office("BL0110L0120");
        x.press(0);
        x.press(1);
        C.due("only the upper is on top", x.about(5), 2);
    }

    private static void promise07() {
        BlottedFirst x = office("BL0310L1521L2632L8933L3113L0111");
        int[][] due = {{0, 0, 1, 0b11}, {1, 1, 1, 0b1010}, {2, 2, 4, 0b11000},
            {8, 3, 3, 0b100100000000}, {3, 3, 1, 0b1000000}, {0, 1, 0, 1}};
        for (int i = 0; i < due.length; i++) {
            for (int what = 0; what < 4; what++) {
                C.due("letter " + i + " " + what, x.letter(i, what), due[i][what]);
            }
            C.due("read " + i, x.letter(i, 4), 0);
            C.due("letter what -1", x.letter(i, -1), BAD);
            C.due("letter what 5", x.letter(i, 5), BAD);
        }
        C.due("press 0", x.press(0), 2);
        C.due("read now", x.letter(0, 4), 1);
        C.due("6", x.letter(6, 0), UNKNOWN);
        C.due("-1", x.letter(-1, 0), UNKNOWN);
        C.due("UNKNOWN is told ahead of BAD", x.letter(6, 5), UNKNOWN);
        x.press(1);
        C.due("not read now", x.letter(0, 4), 0);
        x = office("BL0131L0130");
        x.press(1);
        C.due("a like one can be read as well", x.about(4), 3);
        x = office("BL0111L0130");
        x.press(1);
        C.due("one without force can be read", x.letter(0, 4), 1);
        x = office("BL0110L4110L1110");
        x.press(0);
        x.press(1);
        C.due("a cell outside of the four is nothing to it", x.about(4), 0b011);
    }

    private static void promise08() {
        BlottedFirst x = office("BL0330L1230");
        x.press(0);
        x.press(1);
        C.due("ink 0", x.cell(0, 0), 3);
        C.due("ink 1", x.cell(1, 0), 3);
        C.due("ink 2", x.cell(2, 0), 3);
        C.due("ink 11", x.cell(11, 0), 0);
        C.due("top 0", x.cell(0, 1), 0);
        C.due("top 2", x.cell(2, 1), 1);
        C.due("top 3", x.cell(3, 1), NONE);
        C.due("cell -1", x.cell(-1, 0), BAD);
        C.due("cell 12", x.cell(12, 0), BAD);
        C.due("what -1", x.cell(0, -1), BAD);
        C.due("what 2", x.cell(0, 2), BAD);
    }

    private static void promise09() {
        BlottedFirst x = office("BL0332L0130L0111L8911");
        C.due("press", x.press(0), 2);
        C.due("press again", x.press(0), 2);
        C.due("ink", x.cell(0, 0), 8);
        C.due("press over", x.press(1), 2);
        C.due("9 at most", x.cell(0, 0), 9);
        C.due("the other", x.cell(1, 0), 8);
        C.due("top", x.cell(0, 1), 1);
        C.due("top beside", x.cell(1, 1), 0);
        C.due("press without force", x.press(2), 2);
        C.due("nothing on top by it", x.cell(0, 1), 1);
        C.due("yet an act", x.about(6), 4);
        C.due("light of 1 at the end", x.press(3), 2);
        C.due("press 4", x.press(4), UNKNOWN);
        C.due("press -1", x.press(-1), UNKNOWN);
        C.due("refused is no act", x.about(6), 5);
        C.due("a press is no day", x.about(1), 0);
    }

    private static void promise10() {
        BlottedFirst x = office("BL0110L1120");
        x.press(0);
        x.press(1);
        C.due("day", x.day(), 1);
        C.due("dry", x.cell(0, 0), 0);
        C.due("nothing on top", x.cell(0, 1), NONE);
        C.due("left", x.cell(1, 0), 1);
        C.due("still on top", x.cell(1, 1), 1);
        C.due("day 2", x.day(), 2);
        C.due("day 3", x.day(), 3);
        C.due("not below 0", x.about(3), 0);
        C.due("days are acts", x.about(6), 5);
    }

    private static void promise11() {
        BlottedFirst x = office("BL0330L8820");
        x.press(0);
        x.press(1);
        C.due("rub", x.rub(0), 3);
        C.due("no ink", x.cell(0, 0), 0);
        C.due("no top", x.cell(0, 1), NONE);
        C.due("beside", x.cell(1, 0), 3);
        C.due("rub 11", x.rub(11), 2);
        C.due("acts", x.about(6), 4);
        C.due("rub again", x.rub(0), LATE);
        C.due("rub -1", x.rub(-1), BAD);
        C.due("rub 12", x.rub(12), BAD);
        C.due("refused are no acts", x.about(6), 4);
    }

    private static void promise12() {
        BlottedFirst x = office("BL0710L4120");
        C.due("change of a new sheet", x.change(), LATE);
        x.press(0);
        x.press(1);
        x.day();
        x.press(0);
        C.due("change", x.change(), 4);
        C.due("ink", x.about(3), 0);
        C.due("tops", x.about(5), 0);
        C.due("the day stays", x.about(1), 1);
        C.due("acts", x.about(6), 5);
        C.due("change again", x.change(), LATE);
        C.due("refused is no act", x.about(6), 5);
    }

    private static void promise13() {
        BlottedFirst x = office("BL0330L0120");
        C.due("undo of none", x.undo(), LATE);
        x.press(0);
        x.press(1);
        x.day();
        x.rub(1);
        x.change();
        C.due("undo change", x.undo(), 4);
        C.due("ink behind it", x.about(3), 4);
        C.due("undo rub", x.undo(), 3);
        C.due("ink 1", x.cell(1, 0), 2);
        C.due("top 1", x.cell(1, 1), 0);
        C.due("undo day", x.undo(), 2);
        C.due("day", x.about(1), 0);
        C.due("ink 0", x.cell(0, 0), 5);
        C.due("undo press", x.undo(), 1);
        C.due("top 0", x.cell(0, 1), 0);
        C.due("undo first", x.undo(), 0);
        C.due("top then", x.cell(0, 1), NONE);
        C.due("undo none", x.undo(), LATE);
        x = office("BL0130");
        for (int i = 1; i <= 14; i++) {
            x.day();
            C.due("acts", x.about(6), i);
        }
        for (int i = 0; i < 20; i++) {
            x.day();
            C.due("14 at most", x.about(6), 14);
        }
        for (int i = 13; i >= 0; i--) {
            C.due("undo", x.undo(), i);
            C.due("day", x.about(1), 20 + i);
        }
        C.due("the first ones are forgotten", x.undo(), LATE);
        x.press(0);
        C.due("goes on behind that", x.undo(), 0);
        C.due("new again", x.about(2), 0);
    }

    private static void promise14() {
        BlottedFirst x = office("BL0132L1130L2120L3110");
        for (int i = 0; i < 4; i++) {
            x.press(i);
        }
        x.press(0);
        x.press(0);
        int[] due = {15, 7, 3, 1, 1, 1, 1, 1, 1, 0};
        for (int n = 0; n < 10; n++) {
            C.due("later " + n, x.later(n), due[n]);
        }
        C.due("later -1", x.later(-1), BAD);
        C.due("later 10", x.later(10), BAD);
        C.due("nothing is changed", x.about(1), 0);
        C.due("nor dried", x.later(0), 15);
    }

    private static void promise15() {
        BlottedFirst x = office("BL0130L0210L0320");
        C.due("not read now", x.lasts(0), 0);
        x.press(0);
        C.due("three days", x.lasts(0), 3);
        x.press(1);
        C.due("can be read later, but not now", x.lasts(0), 0);
        C.due("both can be read for one", x.lasts(2), 1);
        x.press(0);
        x.press(0);
        x.rub(1);
        C.due("nine days", x.lasts(0), 9);
        C.due("lasts -1", x.lasts(-1), UNKNOWN);
        C.due("lasts 3", x.lasts(3), UNKNOWN);
    }

    private static void promise16() {
        BlottedFirst x = office("BL0310L1311L1320L8933");
        x.press(2);
        C.due("none", x.shows(0), 0);
        C.due("0", x.shows(1), 3);
        C.due("without force", x.shows(2), 0);
        C.due("0 and 2", x.shows(5), 7);
        C.due("all", x.shows(15), 0b100100000111);
        C.due("16", x.shows(16), BAD);
        C.due("-1", x.shows(-1), BAD);
        C.due("least int", x.shows(Integer.MIN_VALUE), BAD);
        C.due("the sheet is as it was", x.about(2), 6);
    }

    private static void promise17() {
        BlottedFirst x = office("BL0110L1110L0310L4111");
        C.due("none shown", x.fits(0), 2);
        C.due("in all", x.fits(1), 0);
        C.due("in none", x.fits(2), 7);
        x.press(0);
        C.due("0 shown", x.fits(0), 2);
        C.due("in all of 0", x.fits(1), 1);
        C.due("in none of 0", x.fits(2), 6);
        x.press(1);
        C.due("0 and 1 shown", x.fits(0), 10);
        C.due("in all of both", x.fits(1), 0);
        C.due("in none of both", x.fits(2), 0);
        x = office("BL0111L0210L4111");
        C.due("in some, but not in the last one", x.fits(2), 2);
        x.press(1);
        C.due("four of them", x.fits(0), 4);
        x = office("BL0110L0210L0310L4110");
        x.press(2);
        C.due("all but the last", x.fits(2), 8);
        x = office("BL0310");
        x.press(0);
        x.rub(0);
        C.due("no set", x.fits(0), 0);
        C.due("no set 1", x.fits(1), NONE);
        C.due("no set 2", x.fits(2), NONE);
        C.due("-1", x.fits(-1), BAD);
        C.due("3", x.fits(3), BAD);
    }

    private static void promise18() {
        BlottedFirst x = office("BL0110L4110L8110");
        C.due("all are read", x.keeps(0), 3);
        C.due("all", x.keeps(1), 7);
        x = office("BL0110L0210L0410");
        C.due("one", x.keeps(0), 1);
        C.due("the least one", x.keeps(1), 1);
        x = office("BL0310L0110L0210");
        C.due("of it, not beside it", x.keeps(0), 1);
        C.due("fewer", x.keeps(1), 1);
        x = office("BL0111L0110");
        C.due("without force, read by the other", x.keeps(0), 2);
        C.due("both", x.keeps(1), 3);
        x = office("BL0111");
        C.due("can not be read", x.keeps(0), 0);
        C.due("then none", x.keeps(1), 0);
        x = office("BL0911L3110L0110L0810");
        C.due("two by three letters or by two", x.keeps(0), 2);
        C.due("fewer letters, though a greater set", x.keeps(1), 10);
        x = office("BL0310L0110L4110L4130");
        C.due("three", x.keeps(0), 3);
        C.due("least of like ones", x.keeps(1), 13);
        x.press(0);
        C.due("the sheet is nothing to it", x.keeps(1), 13);
        C.due("-1", x.keeps(-1), BAD);
        C.due("2", x.keeps(2), BAD);
    }

    private static void promise19() {
        BlottedFirst x = office("BL0110L0120L4111");
        C.due("empty", x.twice(0), 3);
        C.due("empty, twice", x.twice(1), 0);
        C.due("empty, not at all", x.twice(2), 3);
        x.press(0);
        x.press(0);
        C.due("two by two ways, thrice", x.twice(0), 6);
        C.due("two, twice", x.twice(1), 0);
        C.due("two, not at all", x.twice(2), 0);
        x.press(1);
        x.press(1);
        C.due("six by one way", x.twice(0), 3);
        C.due("six, twice", x.twice(1), 3);
        x.press(1);
        C.due("eight by none", x.twice(0), 0);
        C.due("eight, twice", x.twice(1), NONE);
        C.due("eight, not at all", x.twice(2), NONE);
        x = office("BL0132L0130");
        x.press(0);
        x.press(0);
        x.press(0);
        C.due("nine is at most", x.twice(0), 3);
        C.due("nine, twice", x.twice(1), 0);
        x.day();
        C.due("eight", x.twice(0), 1);
        C.due("eight, twice in all", x.twice(1), 1);
        C.due("eight, not at all in all", x.twice(2), 2);
        C.due("-1", x.twice(-1), BAD);
        C.due("3", x.twice(3), BAD);
        x = office("BL0110L0110L0110L0110L0110L0110");
        x.press(0);
        x.press(0);
        C.due("six letters", x.twice(0), 15 + 6);
    }

    private static void promise20() {
        BlottedFirst x = office("BL0110L0210L0310");
        C.due("one pair", x.crossed(0), 1);
        C.due("which", x.crossed(1), 12);
        x = office("BL0110L4110");
        C.due("no third", x.crossed(0), 0);
        C.due("no first", x.crossed(1), NONE);
        x = office("BL0310L0310L0110L0210L4110");
        C.due("pairs", x.crossed(0), 7);
        C.due("first, least third", x.crossed(1), 21);
        x = office("BL4110L0410L0110L0210L0310L0310");
        C.due("first pair", x.crossed(1), 45);
        C.due("pairs of it", x.crossed(0), 7);
        x = office("BL0110L0210L0110");
        x.press(1);
        C.due("a new sheet; one of the two is enough", x.crossed(0), 0);
        x = office("BL0110L0111L0110");
        C.due("one without force is one of a pair", x.crossed(0), 3);
        C.due("first of it", x.crossed(1), 12);
        C.due("-1", x.crossed(-1), BAD);
        C.due("2", x.crossed(2), BAD);
    }

    private static void promise21() {
        BlottedFirst x = office("BL0110L0210L0310L4111L4120");
        C.due("none told", x.least(0), 0);
        C.due("one of two", x.least(1), 1);
        C.due("fewest", x.least(3), 4);
        C.due("without force shows nothing", x.least(16), 16);
        C.due("two", x.least(19), 20);
        C.due("can not be", x.least(4), NONE);
        x.press(1);
        C.due("shown already", x.least(2), 0);
        C.due("the rest", x.least(3), 1);
        C.due("all cells", x.least(4095), NONE);
        C.due("-1", x.least(-1), BAD);
        C.due("4096", x.least(4096), BAD);
        x = office("BL0110L1110L0310L2110L0510L1310");
        C.due("least of like ones", x.least(7), 12);
        x = office("BL0F10".replace('F', '9') + "L4910L8910L1310L5310L8613");
        C.due("many", x.least(4095), 63);
    }

    private static void promise22() {
        BlottedFirst x = office("BL0310L0110L0711L8910L0720");
        C.due("two cells of three and two", x.share(0, true), 5);
        C.due("below", x.share(0, false), 6);
        C.due("one of three", x.share(1, true), 1);
        C.due("one of three below", x.share(1, false), 3);
        C.due("without force", x.share(2, true), 0);
        C.due("without force below", x.share(2, false), 1);
        C.due("alone", x.share(3, true), 2);
        C.due("alone below", x.share(3, false), 1);
        C.due("one and five sixths", x.share(4, true), 11);
        C.due("sixths", x.share(4, false), 6);
        x.press(3);
        C.due("on a new sheet", x.share(3, true), 2);
        C.due("5", x.share(5, true), UNKNOWN);
        C.due("-1", x.share(-1, false), UNKNOWN);
        x = office("BL0110L0110L0110L0110L0110L0110");
        C.due("of six", x.share(5, false), 6);
        C.due("of six above", x.share(5, true), 1);
    }

    private static void promise23and24() {
        BlottedFirst x = office("BL0110L0110L0110");
        C.due("untell none", x.untell(), 0);
        C.due("tell", x.tell(1, 0), 1);
        C.due("the other way too", x.tell(0, 1), 2);
        C.due("the same again", x.tell(0, 1), 3);
        C.due("both are one", x.tell(2, 2), BAD);
        C.due("no letter", x.tell(3, 0), UNKNOWN);
        C.due("no other", x.tell(0, 3), UNKNOWN);
        C.due("below", x.tell(-1, 0), UNKNOWN);
        C.due("other below", x.tell(0, -1), UNKNOWN);
        C.due("UNKNOWN is told ahead of BAD", x.tell(3, 3), UNKNOWN);
        C.due("refused change nothing", x.about(7), 3);
        x.tell(2, 1);
        x.tell(2, 0);
        C.due("sixth", x.tell(1, 2), 6);
        C.due("seventh", x.tell(0, 2), FULL);
        C.due("BAD is told ahead of FULL", x.tell(1, 1), BAD);
        C.due("UNKNOWN is told ahead of FULL", x.tell(3, 1), UNKNOWN);
        C.due("no act", x.about(6), 0);
        C.due("untell", x.untell(), 6);
        C.due("nothing is over", x.about(7), 0);
        C.due("orders are free again", x.orders(0), 6);
        C.due("tell behind it", x.tell(2, 0), 1);
    }

    private static void promise25() {
        BlottedFirst x = new BlottedFirst();
        C.due("no letters", x.orders(0), 1);
        C.due("no letters, first", x.orders(1), 0);
        x = office("BL0110L0110L0110L0110L0110L0110");
        C.due("free", x.orders(0), 720);
        C.due("free, first", x.orders(1), 123456);
        x.tell(0, 5);
        C.due("one over", x.orders(0), 360);
        C.due("one over, first", x.orders(1), 234561);
        x.tell(0, 5);
        C.due("told twice", x.orders(0), 360);
        x.tell(2, 4);
        C.due("two over", x.orders(0), 180);
        C.due("two over, first", x.orders(1), 245361);
        x.tell(5, 0);
        C.due("in a ring", x.orders(0), 0);
        C.due("in a ring, first", x.orders(1), NONE);
        put(x, "BL0110L0110L0110");
        x.office();
        C.due("of letters that are not any more nothing is looked at", x.orders(0), 6);
        C.due("first of those", x.orders(1), 123);
        C.due("yet they are over", x.about(7), 4);
        put(x, "BL0110L0110L0110L0110L0110");
        x.office();
        C.due("some of them are again", x.orders(0), 60);
        C.due("first of these", x.orders(1), 12453);
        put(x, "B");
        x.office();
        C.due("none of them", x.orders(0), 1);
        C.due("none of them, first", x.orders(1), 0);
        x = office("BL0110L0110L0110");
        x.press(2);
        x.press(0);
        C.due("what is pressed is nothing to it", x.orders(0), 6);
        x.tell(0, 1);
        x.tell(1, 2);
        C.due("a row", x.orders(0), 1);
        C.due("a row, first", x.orders(1), 321);
        x.untell();
        x.tell(0, 1);
        x.tell(0, 2);
        C.due("one over both", x.orders(0), 2);
        C.due("one over both, first", x.orders(1), 231);
        C.due("-1", x.orders(-1), BAD);
        C.due("2", x.orders(2), BAD);
    }

    private static void promise26() {
        BlottedFirst x = office("BL0110L0111L0112L0113");
        int[] due = {30, 0, 30, 30};
        for (int i = 0; i < 4; i++) {
            C.due("rests " + i, x.rests(i, 0), 1);
            C.due("first " + i, x.rests(i, 1), due[i]);
            C.due("what -1", x.rests(i, -1), BAD);
            C.due("what 2", x.rests(i, 2), BAD);
        }
        C.due("4", x.rests(4, 0), UNKNOWN);
        C.due("-1", x.rests(-1, 0), UNKNOWN);
        C.due("UNKNOWN is told ahead of BAD", x.rests(4, 2), UNKNOWN);
    }

    private static void promise27() {
        BlottedFirst x = office("BL0310L2110L0110L4110");
        C.due("not shown", x.chance(0, 5, true), 0);
        C.due("not shown below", x.chance(0, 5, false), 1);
        C.due("not shown, no fading", x.chance(0, 0, false), 1);
        x.press(0);
        C.due("both stay", x.chance(0, 3, true), 49);
        C.due("both stay below", x.chance(0, 3, false), 100);
        C.due("no fading", x.chance(0, 0, true), 1);
        C.due("no fading below", x.chance(0, 0, false), 1);
        C.due("all fades", x.chance(0, 10, true), 0);
        C.due("all fades below", x.chance(0, 10, false), 1);
        x.press(1);
        C.due("one more must fade", x.chance(0, 3, true), 147);
        C.due("one more must fade below", x.chance(0, 3, false), 1000);
        C.due("it can not", x.chance(0, 0, true), 0);
        C.due("it can not below", x.chance(0, 0, false), 1);
        C.due("two must fade", x.chance(2, 5, true), 1);
        C.due("two must fade below", x.chance(2, 5, false), 8);
        x.press(3);
        C.due("outside of its four", x.chance(2, 4, true), 12);
        C.due("outside of its four below", x.chance(2, 4, false), 125);
        C.due("x -1", x.chance(0, -1, true), BAD);
        C.due("x 11", x.chance(0, 11, false), BAD);
        C.due("4", x.chance(4, 5, true), UNKNOWN);
        C.due("-1", x.chance(-1, 5, true), UNKNOWN);
        C.due("UNKNOWN is told ahead of BAD", x.chance(4, 11, true), UNKNOWN);
        C.due("nothing fades by it", x.about(2), 0b10111);
    }

    private static void promise28and29() {
        BlottedFirst x = office("BL0110L4120");
        C.due("seed", x.seed(Long.MIN_VALUE), 0);
        C.due("what it was", x.seed(-5), Long.MIN_VALUE);
        C.due("and then", x.seed(0), -5);
        C.due("m 0", x.years(0), BAD);
        C.due("m 31", x.years(31), BAD);
        C.due("m -1", x.years(-1), BAD);
        C.due("refused leave the seed", x.seed(0), 0);
        x.press(0);
        int once = x.years(1);
        long behind = x.seed(0);
        C.due("the seed behind one", behind, 1442695040888963407L);
        C.due("lots of the first: " + (behind >>> 33) % 9, (behind >>> 33) % 9, lotOf(0));
        C.due("once", once, onceDue(lotOf(0)));
        int thirty = x.years(30);
        long last = x.seed(0);
        int together = 0;
        for (int i = 1; i <= 30; i++) {
            x.seed(0);
            int now = x.years(i);
            C.holds("more years, no fewer", now >= together);
            together = now;
        }
        C.due("the same again", together, thirty);
        C.due("the seed behind thirty", x.seed(0), last);
        C.due("nothing but the seed changes", x.about(3), 1);
        C.due("no act", x.about(6), 1);
        C.due("no day", x.about(1), 0);
        C.due("top", x.cell(4, 1), NONE);
    }

    /** Each lot alone: one year behind a seed that draws it. */
    private static void lots() {
        BlottedFirst x = office("BL0110L4120L4210L8310");
        x.press(0);
        x.press(1);
        int[] due = {2, 2, 1, 3, 2, 2, 1, 1, 0};
        for (int lot = 0; lot <= 8; lot++) {
            for (int tries = 0; tries < 3; tries++) {
                x.seed(seedOf(lot, tries));
                C.due("a year by lot " + lot, x.years(1), due[lot]);
            }
        }
        C.due("the sheet stays", x.about(3), 3);
        long seed = seedOf(0, 0);
        for (int m = 1; m <= 30; m++) {
            seed = seed * 6364136223846793005L + 1442695040888963407L;
            x.seed(seedOf(0, 0));
            x.years(m);
            C.due("the seed behind " + m, x.seed(0), seed);
        }
    }

    private static long seedOf(int lot, int which) {
        int left = which;
        for (long seed = -50; ; seed++) {
            if (lotOf(seed) == lot && left-- == 0) {
                return seed;
            }
        }
    }

    private static long lotOf(long seed) {
        return ((seed * 6364136223846793005L + 1442695040888963407L) >>> 33) % 9;
    }

    /** Of L0110 (pressed once) and L4120: what can be read behind one lot. */
    private static int onceDue(long lot) {
        if (lot == 1) {
            return 2;
        }
        return lot >= 6 ? 0 : 1;
    }

    private static void promise30and31() {
        BlottedFirst x = office("BL0120L1110");
        C.due("again of none", x.again(0), LATE);
        x.press(0);
        x.day();
        C.due("keep 0", x.keep(0), 1);
        C.due("keep is no act", x.about(6), 2);
        x.press(1);
        x.day();
        C.due("again 1 of none", x.again(1), LATE);
        C.due("refused leaves the acts", x.about(6), 4);
        C.due("keep 1", x.keep(1), 2);
        C.due("again 0", x.again(0), 1);
        C.due("ink", x.about(3), 1);
        C.due("top", x.cell(0, 1), 0);
        C.due("no acts", x.about(6), 0);
        C.due("no undo", x.undo(), LATE);
        x.change();
        C.due("again 0 once more", x.again(0), 1);
        C.due("as it was kept", x.about(2), 1);
        C.due("again 1", x.again(1), 2);
        C.due("nothing there", x.about(2), 0);
        C.due("day", x.about(1), 2);
        C.due("keep 0 anew", x.keep(0), 2);
        C.due("again 0 anew", x.again(0), 2);
        C.due("keep -1", x.keep(-1), UNKNOWN);
        C.due("keep 2", x.keep(2), UNKNOWN);
        C.due("again -1", x.again(-1), UNKNOWN);
        C.due("again 2", x.again(2), UNKNOWN);
        x.tell(0, 1);
        x.seed(3);
        x.again(0);
        C.due("over stays", x.about(7), 1);
        C.due("seed stays", x.seed(0), 3);
    }

    private static void queriesChangeNothing() {
        BlottedFirst x = office("BL0330L1311L2722L4933L0110");
        x.press(0);
        x.press(2);
        x.day();
        x.tell(1, 0);
        String before = stateOf(x);
        for (int i = -1; i < 10; i++) {
            x.letter(i, i);
            x.later(i);
            x.lasts(i);
            x.shows(i);
            x.fits(i);
            x.keeps(i);
            x.twice(i);
            x.crossed(i);
            x.least(i);
            x.share(i, true);
            x.orders(i);
            x.rests(i, i);
            x.chance(i, i, true);
            x.keep(i);
            x.fault();
        }
        C.holds("queries change nothing", before.equals(stateOf(x)));
    }

    private static String stateOf(BlottedFirst x) {
        StringBuilder all = new StringBuilder();
        for (int what = 0; what <= 8; what++) {
            all.append(x.about(what)).append(' ');
        }
        for (int cell = 0; cell < 12; cell++) {
            all.append(x.cell(cell, 0)).append('/').append(x.cell(cell, 1)).append(' ');
        }
        return all.toString();
    }

    private static void farArguments() {
        int[] far = {Integer.MIN_VALUE, Integer.MIN_VALUE + 1, -33, -32, -2, 32, 33, 64, 4097, 65536, Integer.MAX_VALUE};
        BlottedFirst x = office("BL0330L1311L2722L4933L0110L1110");
        for (int i : far) {
            C.due("write " + i, i >= 0 && i < 256 ? x.write(i) > 0 ? BAD : 0 : x.write(i), BAD);
            C.due("about " + i, x.about(i), BAD);
            C.due("letter " + i, x.letter(i, 0), UNKNOWN);
            C.due("letter 0 " + i, x.letter(0, i), BAD);
            C.due("cell " + i, x.cell(i, 0), BAD);
            C.due("cell 0 " + i, x.cell(0, i), BAD);
            C.due("press " + i, x.press(i), UNKNOWN);
            C.due("rub " + i, x.rub(i), BAD);
            C.due("later " + i, x.later(i), BAD);
            C.due("lasts " + i, x.lasts(i), UNKNOWN);
            C.due("shows " + i, i >= 0 && i < 64 ? BAD : x.shows(i), BAD);
            C.due("fits " + i, x.fits(i), BAD);
            C.due("keeps " + i, x.keeps(i), BAD);
            C.due("twice " + i, x.twice(i), BAD);
            C.due("crossed " + i, x.crossed(i), BAD);
            C.due("least " + i, i >= 0 && i < 4096 ? BAD : x.least(i), BAD);
            C.due("share " + i, x.share(i, true), UNKNOWN);
            C.due("tell " + i, x.tell(i, 0), UNKNOWN);
            C.due("tell 0 " + i, x.tell(0, i), UNKNOWN);
            C.due("tell both " + i, x.tell(i, i), UNKNOWN);
            C.due("orders " + i, x.orders(i), BAD);
            C.due("rests " + i, x.rests(i, 0), UNKNOWN);
            C.due("rests 0 " + i, x.rests(0, i), BAD);
            C.due("chance " + i, x.chance(i, 0, true), UNKNOWN);
            C.due("chance 0 " + i, x.chance(0, i, true), BAD);
            C.due("years " + i, x.years(i), BAD);
            C.due("keep " + i, x.keep(i), UNKNOWN);
            C.due("again " + i, x.again(i), UNKNOWN);
        }
    }
}
