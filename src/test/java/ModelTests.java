import java.util.Random;

/** Runs of some 500 drawn calls, each answered by the program and by the model; the draws are the same every time. */
public final class ModelTests {
    private static final int RUNS = 3000, CALLS = 460;
    private static final Check C = new Check("ModelTests");
    private static final Random DRAW = new Random(20261118L);

    private static BlottedFirst x;
    private static Model m;
    private static int calls;

    public static void main(String[] args) {
        for (int run = 0; run < RUNS; run++) {
            x = new BlottedFirst();
            m = new Model();
            calls = 0;
            while (calls < CALLS) {
                if (calls == 0 || DRAW.nextInt(60) == 0) {
                    tellOffice();
                } else if (DRAW.nextInt(3) == 0) {
                    act();
                } else {
                    ask(DRAW.nextInt(31));
                }
            }
        }
        C.end();
    }

    private static void due(String call, long got, long want) {
        calls++;
        C.due(call, got, want);
    }

    private static char figure(int from, int to) {
        return (char) ('0' + from + DRAW.nextInt(to - from + 1));
    }

    private static String drawnText() {
        StringBuilder text = new StringBuilder("B");
        int many = DRAW.nextInt(4) == 0 ? DRAW.nextInt(8) : 3 + DRAW.nextInt(4);
        int far = DRAW.nextBoolean() ? 8 : 2;
        for (int i = 0; i < many; i++) {
            text.append('L').append(figure(0, far)).append(figure(1, 9)).append(figure(1, 3)).append(figure(0, 3));
        }
        if (DRAW.nextInt(4) == 0) {
            text.setCharAt(DRAW.nextInt(text.length()), "B/L0123459:\u00ff\u0000".charAt(DRAW.nextInt(13)));
        }
        if (DRAW.nextInt(5) == 0) {
            text.setLength(DRAW.nextInt(text.length() + 1));
        }
        return text.toString();
    }

    private static void tellOffice() {
        due("wipe", x.wipe(), m.wipe());
        String text = drawnText();
        for (int i = 0; i < text.length(); i++) {
            int b = text.charAt(i);
            due("write " + b, x.write(b), m.write(b));
        }
        due("fault of " + text, x.fault(), m.fault());
        due("office of " + text, x.office(), m.office());
    }

    private static void act() {
        int n = DRAW.nextInt(12);
        if (n < 6) {
            due("press " + n, x.press(n), m.press(n));
        } else if (n < 8) {
            due("day", x.day(), m.day());
        } else if (n < 9) {
            int cell = DRAW.nextInt(14) - 1;
            due("rub " + cell, x.rub(cell), m.rub(cell));
        } else if (n < 10) {
            due("change", x.change(), m.change());
        } else {
            due("undo", x.undo(), m.undo());
        }
        for (int what = 0; what < 12; what++) {
            due("ink " + what, x.cell(what, 0), m.cell(what, 0));
            due("top " + what, x.cell(what, 1), m.cell(what, 1));
        }
        due("day now", x.about(1), m.about(1));
    }

    private static int from(int least, int most) {
        return DRAW.nextInt(40) == 0 ? DRAW.nextInt() : least + DRAW.nextInt(most - least + 1);
    }

    private static void ask(int call) {
        int i = from(-1, 6);
        int w = from(-1, 3);
        boolean u = DRAW.nextBoolean();
        switch (call) {
            case 0: int b = from(-1, 256); due("write " + b, x.write(b), m.write(b)); break;
            case 1: due("fault", x.fault(), m.fault()); break;
            case 2: int a = from(-1, 9); due("about " + a, x.about(a), m.about(a)); break;
            case 3: int v = from(-1, 5); due("letter " + i + " " + v, x.letter(i, v), m.letter(i, v)); break;
            case 4: int c = from(-1, 12); due("cell " + c + " " + w, x.cell(c, w), m.cell(c, w)); break;
            case 5: due("press " + i, x.press(i), m.press(i)); break;
            case 6: int n = from(-1, 10); due("later " + n, x.later(n), m.later(n)); break;
            case 7: case 8: due("lasts " + i, x.lasts(i), m.lasts(i)); break;
            case 9: int s = from(-1, 64); due("shows " + s, x.shows(s), m.shows(s)); break;
            case 10: case 11: due("fits " + w, x.fits(w), m.fits(w)); break;
            case 12: due("keeps " + w, x.keeps(w), m.keeps(w)); break;
            case 13: case 14: due("twice " + w, x.twice(w), m.twice(w)); break;
            case 15: due("crossed " + w, x.crossed(w), m.crossed(w)); break;
            case 16: case 17: int l = from(-1, 4096) & from(-1, 4096); due("least " + l, x.least(l), m.least(l)); break;
            case 18: due("share " + i + " " + u, x.share(i, u), m.share(i, u)); break;
            case 19: case 20: int o = from(-1, 6); due("tell " + i + " " + o, x.tell(i, o), m.tell(i, o)); break;
            case 21: if (DRAW.nextInt(3) == 0) { due("untell", x.untell(), m.untell()); } break;
            case 22: due("orders " + w, x.orders(w), m.orders(w)); break;
            case 23: due("rests " + i + " " + w, x.rests(i, w), m.rests(i, w)); break;
            case 24: case 25: int t = from(-1, 11); due("chance " + i + " " + t, x.chance(i, t, u), m.chance(i, t, u)); break;
            case 26: long seed = DRAW.nextLong(); due("seed " + seed, x.seed(seed), m.seed(seed)); break;
            case 27: case 28: int y = from(0, 31); due("years " + y, x.years(y), m.years(y)); break;
            case 29: int k = from(-1, 2); due("keep " + k, x.keep(k), m.keep(k)); break;
            default: int g = from(-1, 2); due("again " + g, x.again(g), m.again(g)); break;
        }
    }
}
