/** Promises 25 to 27 and 29: mark, keep, back, trace. */
public final class KindsTest {
    private static final Check C = new Check("KindsTest");

    public static void main(String[] args) {
        constants();
        mark();
        trace();
        images();
        imagesKeepUndone();
        imagesKeepNothingElse();
        C.finish();
    }

    private static void constants() {
        C.sentence("The public face", "public static final int BAD = -1, STATE = -2, FULL = -3, NONE = -9;");
        C.due("BAD", DawnTales.BAD, -1);
        C.due("STATE", DawnTales.STATE, -2);
        C.due("FULL", DawnTales.FULL, -3);
        C.due("NONE", DawnTales.NONE, -9);
        C.sentence("The constants", "`NO = -1000000`: What none is, where a number may be below 0.");
        C.due("NO", DawnTales.NO, -1000000);
    }

    /** Tale 0: 7 parts, two within it, one more within one of these; night 1, three open. */
    private static DawnTales inTheMiddle() {
        DawnTales x = Check.told("n 3;t 7 9;t 3 0;t 2 1;t 2 0;");
        x.begins(0);
        x.tells();
        x.begins(1);
        x.dawn();
        x.begins(2);
        return x;
    }

    private static void mark() {
        C.sentence("Promise 25", "MARK. NO: BAD.");
        DawnTales x = inTheMiddle();
        int[] first = {5, 12, 3, 24, 6, 6};
        int[] second = {2, 5, 1, 10, 4, 3};
        int[] fourth = {2, 4, 2, 8, 5, 3};
        for (int kind = 0; kind < 6; kind++) {
            C.due("mark(" + kind + ", 0)", x.mark(kind, 0), first[kind]);
            C.due("mark(" + kind + ", 1)", x.mark(kind, 1), second[kind]);
            C.due("mark(" + kind + ", 3)", x.mark(kind, 3), fourth[kind]);
        }
        C.due("mark(-1, 0)", x.mark(-1, 0), DawnTales.NO);
        C.due("mark(6, 0)", x.mark(6, 0), DawnTales.NO);
        C.due("mark(0, -1)", x.mark(0, -1), DawnTales.NO);
        C.due("mark(0, 4)", x.mark(0, 4), DawnTales.NO);
        C.due("below 0", Check.told("t 1 9;t 1 0;t 1 0;").mark(2, 0), -1);
    }

    private static void trace() {
        C.sentence("Promise 29", "THE TRACE.");
        DawnTales x = inTheMiddle();
        long due = 0;
        long[] numbers = {1, 11, 101, 1011, 10101, 100001};
        for (int kind = 5; kind >= 0; kind--) {
            due += numbers[kind];
            x.mark(kind, 0);
            C.due("trace() after kind " + kind, x.trace(), due);
        }
        x.mark(6, 0);
        x.mark(5, 4);
        C.due("trace() after what was BAD", x.trace(), due);
        x.keep(0);
        x.mark(5, 0);
        x.back(0);
        C.due("trace() after back()", x.trace(), due + 100001);
        x.undo();
        C.due("trace() after undo()", x.trace(), due + 100001);
    }

    private static void images() {
        C.sentence("Promise 26", "An IMAGE is kept: the NIGHT. BAD.");
        DawnTales x = inTheMiddle();
        C.due("keep(-1)", x.keep(-1), Check.BAD);
        C.due("keep(2)", x.keep(2), Check.BAD);
        C.due("back(-1)", x.back(-1), Check.BAD);
        C.due("back(2)", x.back(2), Check.BAD);
        C.due("back(0) of none", x.back(0), Check.STATE);
        String first = Check.stateOf(x);
        C.due("keep(0)", x.keep(0), 1);
        C.due("back(1) of none", x.back(1), Check.STATE);
        x.tells();
        x.silent();
        x.dawn();
        String second = Check.stateOf(x);
        C.due("keep(1)", x.keep(1), 2);
        C.due("back(0)", x.back(0), 1);
        C.due("as image 0 has it", first.equals(Check.stateOf(x)) ? 1 : 0, 1);
        x.silent();
        C.due("back(0) again", x.back(0), 1);
        C.due("as image 0 has it still", first.equals(Check.stateOf(x)) ? 1 : 0, 1);
        C.due("back(1)", x.back(1), 2);
        C.due("as image 1 has it", second.equals(Check.stateOf(x)) ? 1 : 0, 1);
        x.silent();
        x.keep(0);
        C.due("keep(0) anew", x.now(1), 2);
        x.back(1);
        x.back(0);
        C.due("the newer one", x.now(1), 2);
        DawnTales dead = Check.told("n 1;t 2 9;");
        dead.keep(0);
        dead.silent();
        dead.dawn();
        C.due("back() of one who lives no more", dead.back(0), 0);
        C.due("she lives", dead.now(4), 1);
    }

    private static void imagesKeepUndone() {
        C.sentence("Promise 27", "All of that becomes as an IMAGE has it: the NIGHT.");
        DawnTales x = Check.told("n 9;t 9 9;");
        x.begins(0);
        x.tells();
        x.keep(0);
        for (int i = 0; i < 5; i++) {
            x.silent();
        }
        x.undo();
        C.due("back(0)", x.back(0), 0);
        C.due("two to be undone", x.count(5), 2);
        C.due("undo()", x.undo(), 1);
        C.due("one part told", x.tale(0, 2), 8);
        C.due("undo() again", x.undo(), 0);
        C.due("none told", x.tale(0, 2), 9);
        x.silent();
        x.back(0);
        C.due("the image was not undone", x.tale(0, 2), 7);
        x.undo();
        C.due("nor what it knows", x.tale(0, 2), 8);
        x.undo();
        for (int i = 0; i < 5; i++) {
            x.silent();
        }
        x.back(0);
        C.due("what was done meanwhile is not what is undone", x.undo(), 1);
        C.due("one part told once more", x.tale(0, 2), 8);
        C.due("eight hours left", x.now(1), 8);
        C.due("undo() to the beginning", x.undo(), 0);
        C.due("nine hours left", x.now(1), 9);
        x.back(0);
        for (int i = 0; i < 7; i++) {
            x.silent();
        }
        x.dawn();
        x.tells();
        C.due("ten to be undone", x.keep(1), 1);
        x.silent();
        x.silent();
        x.back(1);
        for (int i = 9; i >= 0; i--) {
            C.due("undo() of ten as kept", x.undo(), i);
        }
        C.due("the first of eleven is lost, as kept", x.tale(0, 2), 8);
        C.due("eight hours left then", x.now(1), 8);
    }

    private static void imagesKeepNothingElse() {
        C.sentence("Promise 27", "All of that becomes as an IMAGE has it");
        DawnTales x = Check.told("n 9;t 9 9;");
        x.heard(1, 1);
        x.type('m');
        x.keep(0);
        x.heard(2, 1);
        x.type(' ');
        x.back(0);
        C.due("heard stays", x.count(4), 2);
        C.due("the text stays", x.count(6), 2);
        x.silent();
        x.heard(3, 1);
        x.type('4');
        x.undo();
        C.due("heard stays after undo()", x.count(4), 3);
        C.due("the text stays after undo()", x.count(6), 3);
    }
}
