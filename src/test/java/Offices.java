/** What the tests of edges share: objects that have come to a told state. */
final class Offices {
    static final int UNKNOWN = -1, BAD = -2, LATE = -3, FULL = -4, NONE = -9;

    private Offices() {
    }

    static void put(BlottedFirst x, String text) {
        x.wipe();
        for (int i = 0; i < text.length(); i++) {
            x.write(text.charAt(i));
        }
    }

    static BlottedFirst office(String text) {
        BlottedFirst x = new BlottedFirst();
        put(x, text);
        x.office();
        return x;
    }

    static BlottedFirst pressed(String text, int... letters) {
        BlottedFirst x = office(text);
        press(x, letters);
        return x;
    }

    static void press(BlottedFirst x, int... letters) {
        for (int letter : letters) {
            x.press(letter);
        }
    }

    static void often(BlottedFirst x, int letter, int times) {
        for (int i = 0; i < times; i++) {
            x.press(letter);
        }
    }

    static void days(BlottedFirst x, int many) {
        for (int i = 0; i < many; i++) {
            x.day();
        }
    }

    /** B and so many letters, each of one mark at a place of its own. */
    static String ofLetters(int many) {
        StringBuilder text = new StringBuilder("B");
        for (int i = 0; i < many; i++) {
            text.append('L').append(i).append("110");
        }
        return text.toString();
    }

    /** A letter that presses one cell alone, with force 1. */
    static String atCell(int cell) {
        return cell <= 8 ? "L" + cell + "110" : "L8" + (1 << cell - 8) + "10";
    }

    /** THE DAY and each CELL's INK and TOP: 25 calls. */
    static String sheetOf(BlottedFirst x) {
        StringBuilder all = new StringBuilder("day ").append(x.about(1)).append(':');
        for (int cell = 0; cell < 12; cell++) {
            all.append(' ').append(x.cell(cell, 0)).append('/').append(x.cell(cell, 1));
        }
        return all.toString();
    }
}
