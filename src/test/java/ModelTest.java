import java.util.Random;

/** Runs of calls, the same ones each time, asked of the class and of the model. */
public final class ModelTest {
    private static final Check C = new Check("ModelTest");
    private static final int CALLS = 512;
    private static final int MOST_AT_ONCE = 7;
    private static DawnTales x;
    private static Model m;
    private static Random r;
    private static int calls;
    private static String log;

    public static void main(String[] args) {
        C.sentence("What it is", "An object is used for at most 512 calls after it has been made");
        int runs = args.length > 0 ? Integer.parseInt(args[0]) : 600;
        for (int run = 0; run < runs; run++) {
            r = new Random(run);
            x = new DawnTales();
            m = new Model();
            calls = 0;
            log = "run " + run + ": ";
            oneRun(run % 4 == 3 ? 6 : 1 + run % 5);
        }
        C.finish();
    }

    private static void oneRun(int tales) {
        boolean clean = r.nextInt(3) > 0;
        write(text(tales, clean));
        int style = r.nextInt(3);
        while (calls < CALLS - MOST_AT_ONCE) {
            int k = r.nextInt(100);
            if (k < 2) {
                write(text(r.nextInt(7), r.nextBoolean()));
            } else if (k < 4) {
                byteTyped();
            } else if (k < (style == 0 ? 70 : 40)) {
                telling();
            } else if (k < 80) {
                coming();
            } else {
                other();
            }
        }
    }

    private static void due(String what, long got, long want) {
        calls++;
        C.due(log + what + " (call " + calls + ")", got, want);
    }

    private static void write(String s) {
        if (calls + s.length() + 2 > CALLS) {
            return;
        }
        if (r.nextInt(5) > 0) {
            due("clear()", x.clear(), m.clear());
        }
        for (char c : s.toCharArray()) {
            due("type(" + (int) c + ")", x.type(c), m.type(c));
        }
        due("tales() of '" + s + "'", x.tales(), m.tales());
    }

    private static void byteTyped() {
        int c = r.nextInt(300) - 20;
        due("type(" + c + ")", x.type(c), m.type(c));
    }

    private static String text(int tales, boolean clean) {
        if (r.nextInt(10) == 0) {
            return longText(tales);
        }
        StringBuilder s = new StringBuilder();
        int most = 1 + r.nextInt(9);
        if (r.nextInt(4) > 0) {
            s.append("n");
            int nights = r.nextInt(4) == 0 ? 1 + r.nextInt(8) : 1 + r.nextInt(2);
            int hours = 1 + r.nextInt(r.nextBoolean() ? 3 : 9);
            for (int i = 0; i < nights; i++) {
                s.append(' ').append(1 + r.nextInt(hours));
            }
            s.append(';');
        }
        if (r.nextInt(3) > 0) {
            s.append("m").append(1 + r.nextInt(9)).append(";");
        }
        if (r.nextInt(3) == 0) {
            s.append("d ").append(1 + r.nextInt(6)).append(";");
        }
        for (int t = 0; t < tales; t++) {
            int within = t > 0 && r.nextInt(3) == 0 ? r.nextInt(t) : 9;
            s.append("t").append(r.nextBoolean() ? " " : "").append(1 + r.nextInt(most)).append(' ').append(within).append(';');
        }
        return clean ? s.toString() : spoilt(s);
    }

    /** Tales that may be told one after the other, each for eight nights, so that thirty dawns come. */
    private static String longText(int tales) {
        StringBuilder s = new StringBuilder("n 2 1 1 1 1 1 1 1;d1;");
        for (int t = 0; t < tales; t++) {
            s.append("t").append(r.nextInt(4) == 0 ? 1 + r.nextInt(9) : t == tales / 2 ? 1 : 9).append(" 9;");
        }
        return s.toString();
    }

    private static String spoilt(StringBuilder s) {
        String some = "tnmd;;0123456789 90x@`{/:\t";
        for (int i = r.nextInt(3); i >= 0 && s.length() > 0; i--) {
            int at = r.nextInt(s.length());
            char c = r.nextInt(20) == 0 ? (char) r.nextInt(256) : some.charAt(r.nextInt(some.length()));
            switch (r.nextInt(4)) {
                case 0: s.setCharAt(at, c); break;
                case 1: s.insert(at, c); break;
                case 2: s.deleteCharAt(at); break;
                default: s.setLength(Math.max(1, s.length() - r.nextInt(3)));
            }
        }
        return s.toString();
    }

    private static void telling() {
        int k = r.nextInt(20);
        int t = r.nextInt(7) - (r.nextInt(9) == 0 ? 1 : 0);
        if (m.now(1) == 0 && k < 14) {
            k = 16;
        }
        if (m.now(4) == 0 && r.nextInt(3) > 0) {
            k = r.nextInt(2) == 0 ? 18 : 15;
        }
        if (k < 5) {
            due("begins(" + t + ")", x.begins(t), m.begins(t));
        } else if (k < 12) {
            due("tells()", x.tells(), m.tells());
        } else if (k < 14) {
            due("silent()", x.silent(), m.silent());
        } else if (k < 15 && r.nextInt(3) > 0) {
            int image = r.nextInt(4) - 1;
            due("keep(" + image + ")", x.keep(image), m.keep(image));
        } else if (k == 14) {
            for (int i = r.nextInt(6); i >= 0; i--) {
                due("undo()", x.undo(), m.undo());
            }
        } else if (k < 16) {
            int image = r.nextInt(4) - 1;
            due("back(" + image + ")", x.back(image), m.back(image));
        } else if (k < 18) {
            due("dawn()", x.dawn(), m.dawn());
        } else {
            due("undo()", x.undo(), m.undo());
        }
        int w = r.nextInt(10) - 1;
        due("now(" + w + ")", x.now(w), m.now(w));
    }

    private static int row() {
        int n = m.count(0);
        int row = 0;
        for (int i = r.nextInt(n + 1); i > 0; i--) {
            row = row * 10 + 1 + r.nextInt(n + (r.nextInt(9) == 0 ? 1 : 0));
        }
        int k = r.nextInt(12);
        return k == 0 ? r.nextInt() : k == 1 ? -row : k < 6 ? (m.best(1) / 10) : k < 8 ? m.mind(1 + r.nextInt(4), 1) : row;
    }

    private static void coming() {
        int d = r.nextInt(3) == 0 ? r.nextInt(34) - 1 : r.nextInt(9);
        int what = r.nextInt(8) == 0 ? r.nextInt(4) - 1 : r.nextInt(2);
        switch (r.nextInt(9)) {
            case 0: due("on()", x.on(), m.on()); break;
            case 1: {
                int row = row();
                due("by(" + row + ")", x.by(row), m.by(row));
                break;
            }
            case 2: due("best(" + what + ")", x.best(what), m.best(what)); break;
            case 3: due("fewest(" + d + ", " + what + ")", x.fewest(d, what), m.fewest(d, what)); break;
            case 4: due("mind(" + d + ", " + what + ")", x.mind(d, what), m.mind(d, what)); break;
            case 5: due("bars(" + d + ")", x.bars(d), m.bars(d)); break;
            case 6: due("orders(" + what + ")", x.orders(what), m.orders(what)); break;
            case 7: due("surely(" + d + ")", x.surely(d), m.surely(d)); break;
            default:
                if (r.nextInt(4) == 0) {
                    due("longer()", x.longer(), m.longer());
                }
                break;
        }
    }

    private static void other() {
        int t = r.nextInt(8) - 1;
        int what = r.nextInt(8) - 1;
        switch (r.nextInt(9)) {
            case 0: {
                int d = r.nextInt(8) == 0 ? r.nextInt(34) - 1 : 1 + r.nextInt(3);
                int open = r.nextInt(8) == 0 ? r.nextInt(9) - 1 : 1 + r.nextInt(2);
                due("heard(" + d + ", " + open + ")", x.heard(d, open), m.heard(d, open));
                break;
            }
            case 1: due("forget()", x.forget(), m.forget()); break;
            case 2: {
                int chance = r.nextInt(13) - 1;
                int n = r.nextInt(12) - 1;
                int part = r.nextInt(4) - 1;
                due("odds(" + chance + ", " + n + ", " + part + ")", x.odds(chance, n, part), m.odds(chance, n, part));
                break;
            }
            case 3: due("mark(" + what + ", " + t + ")", x.mark(what, t), m.mark(what, t)); break;
            case 4: due("trace()", x.trace(), m.trace()); break;
            case 5: due("count(" + what + ")", x.count(what), m.count(what)); break;
            case 6: due("tale(" + t + ", " + what + ")", x.tale(t, what), m.tale(t, what)); break;
            case 7: {
                int night = r.nextInt(206) - 2;
                due("hours(" + night + ")", x.hours(night), m.hours(night));
                break;
            }
            default: due("now(" + what + ")", x.now(what), m.now(what)); break;
        }
    }
}
