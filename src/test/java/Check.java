/** Counts the answers that are not the ones that are due. */
final class Check {
    static final int BAD = -1, STATE = -2, FULL = -3, NONE = -9;

    private final String name;
    private int asked;
    private int wrong;

    Check(String name) {
        this.name = name;
    }

    void due(String what, long got, long want) {
        asked++;
        if (got != want) {
            wrong++;
            System.out.println(name + ": " + what + " answered " + got + ", due is " + want);
        }
    }

    /** Ends the test: exit code 1 if an answer was not due. */
    void finish() {
        System.out.println(name + ": " + asked + " asked, " + wrong + " wrong");
        if (wrong != 0 || asked == 0) {
            System.exit(1);
        }
    }

    static void write(DawnTales x, String text) {
        for (int i = 0; i < text.length(); i++) {
            x.type(text.charAt(i));
        }
    }

    /** A new object that has read a text. */
    static DawnTales told(String text) {
        DawnTales x = new DawnTales();
        write(x, text);
        if (x.tales() < 0) {
            System.out.println("a text of a test is faulty: " + text);
            System.exit(1);
        }
        return x;
    }

    /** All that an object tells of its state, but for what comes: what a refused call must leave as it is. */
    static String stateOf(DawnTales x) {
        StringBuilder s = new StringBuilder();
        for (int w = 0; w < 8; w++) {
            s.append(x.now(w)).append(' ');
        }
        for (int w = 0; w < 7; w++) {
            s.append(x.count(w)).append(' ');
        }
        for (int t = 0; t < 6; t++) {
            for (int w = 0; w < 6; w++) {
                s.append(x.tale(t, w)).append(' ');
            }
        }
        return s.append(x.trace()).toString();
    }
}
