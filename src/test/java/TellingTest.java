/** Promises 5 and 7 to 12: begins, tells, silent, dawn, undo, now, tale. */
public final class TellingTest {
    private static final Check C = new Check("TellingTest");

    public static void main(String[] args) {
        tale();
        begins();
        within();
        depth();
        tells();
        silent();
        dawn();
        memory();
        nightsComeRound();
        lastNight();
        undo();
        undoOfEach();
        now();
        C.finish();
    }

    private static void tale() {
        C.sentence("Promise 5", "0 PARTS, 1 WITHIN (9: whichever), 2 PARTS LEFT, 3 whether BEGUN, 4 its place in OPEN (0: outermost; NONE), 5 the NIGHT in which it was told of last (NONE). BAD.");
        DawnTales x = Check.told("n 3;t 4 9;t 2 0;");
        due(x, 0, 4, 9, 4, 0, Check.NONE, Check.NONE);
        due(x, 1, 2, 0, 2, 0, Check.NONE, Check.NONE);
        x.begins(0);
        x.begins(1);
        due(x, 0, 4, 9, 3, 1, 0, 0);
        due(x, 1, 2, 0, 1, 1, 1, 0);
        x.silent();
        x.dawn();
        x.tells();
        due(x, 0, 4, 9, 3, 1, 0, 0);
        due(x, 1, 2, 0, 0, 1, Check.NONE, 1);
        x.tells();
        due(x, 0, 4, 9, 2, 1, 0, 1);
        C.due("tale(2, 0)", x.tale(2, 0), Check.BAD);
        C.due("tale(-1, 0)", x.tale(-1, 0), Check.BAD);
        C.due("tale(6, 0)", x.tale(6, 0), Check.BAD);
        C.due("tale(0, -1)", x.tale(0, -1), Check.BAD);
        C.due("tale(0, 6)", x.tale(0, 6), Check.BAD);
    }

    private static void due(DawnTales x, int t, int... want) {
        for (int w = 0; w < want.length; w++) {
            C.due("tale(" + t + ", " + w + ")", x.tale(t, w), want[w]);
        }
    }

    private static void refused(String what, DawnTales x, int got, int want, String before) {
        C.due(what, got, want);
        C.due(what + " changes nothing", before.equals(Check.stateOf(x)) ? 1 : 0, 1);
    }

    private static void begins() {
        C.sentence("Promise 7", "BAD; STATE: she LIVES no more, no HOURS, it is BEGUN, too deep, not there.");
        DawnTales x = Check.told("n 3;t 4 9;t 1 9;t 2 9;");
        String before = Check.stateOf(x);
        refused("begins(-1)", x, x.begins(-1), Check.BAD, before);
        refused("begins(3)", x, x.begins(3), Check.BAD, before);
        refused("begins(9)", x, x.begins(9), Check.BAD, before);
        C.due("begins(0)", x.begins(0), 2);
        before = Check.stateOf(x);
        refused("BAD ahead of STATE", x, x.begins(4), Check.BAD, before);
        beginsAgain();
    }

    private static void beginsAgain() {
        DawnTales x = Check.told("n 3;t 4 9;t 1 9;t 2 9;");
        x.begins(0);
        String before = Check.stateOf(x);
        refused("begins(0) twice", x, x.begins(0), Check.STATE, before);
        C.due("begins(1) of one part", x.begins(1), 1);
        C.due("it is at its end at once", x.now(6), 2);
        C.due("and not open", x.tale(1, 4), Check.NONE);
        C.due("innermost is the first", x.now(3), 0);
        before = Check.stateOf(x);
        refused("begins(1) at its end", x, x.begins(1), Check.STATE, before);
        x.silent();
        before = Check.stateOf(x);
        refused("begins(2) without hours", x, x.begins(2), Check.STATE, before);
        C.due("BAD ahead of STATE, without hours", x.begins(4), Check.BAD);
    }

    private static void within() {
        C.sentence("Promise 7", "not there.");
        DawnTales x = Check.told("n 9;t 4 9;t 3 0;t 1 1;t 2 0;");
        C.due("not there: none is open", x.begins(1), Check.STATE);
        x.begins(0);
        C.due("not there: another is innermost", x.begins(2), Check.STATE);
        C.due("begins within", x.begins(1), 7);
        C.due("not there: only open", x.begins(3), Check.STATE);
        C.due("begins within that", x.begins(2), 6);
        x.tells();
        x.tells();
        C.due("innermost again", x.begins(3), 3);
    }

    private static void depth() {
        C.sentence("Promise 7", "too deep");
        DawnTales x = Check.told("n 9;d 2;t 4 9;t 2 9;t 1 9;");
        x.begins(0);
        x.begins(1);
        C.due("too deep", x.begins(2), Check.STATE);
        C.due("too deep for now(7)", x.now(7), 0);
        x.tells();
        C.due("not too deep", x.begins(2), 5);
    }

    private static void tells() {
        C.sentence("Promise 8", "TELLS: HOURS LEFT. STATE: she LIVES no more, no HOURS, none is OPEN.");
        DawnTales x = Check.told("n 3;t 2 9;t 9 9;");
        String before = Check.stateOf(x);
        refused("tells() with none open", x, x.tells(), Check.STATE, before);
        x.begins(0);
        C.due("tells() to the end", x.tells(), 1);
        C.due("at its end", x.now(6), 1);
        C.due("not open", x.now(2), 0);
        C.due("none open again", x.tells(), Check.STATE);
        x.begins(1);
        before = Check.stateOf(x);
        refused("tells() without hours", x, x.tells(), Check.STATE, before);
    }

    private static void silent() {
        C.sentence("Promise 9", "SILENT: HOURS LEFT. STATE: she LIVES no more, no HOURS.");
        DawnTales x = Check.told("n 2;t 2 9;");
        C.due("silent()", x.silent(), 1);
        C.due("silent() again", x.silent(), 0);
        String before = Check.stateOf(x);
        refused("silent() without hours", x, x.silent(), Check.STATE, before);
        C.due("nothing was told", x.tale(0, 2), 2);
        x.dawn();
        before = Check.stateOf(x);
        refused("silent() of one who lives no more", x, x.silent(), Check.STATE, before);
    }

    private static void dawn() {
        C.sentence("Promise 10", "DAWN: 1: she is SAVED, 0: she LIVES no more.");
        DawnTales x = Check.told("n 1 2;t 2 9;");
        String before = Check.stateOf(x);
        refused("dawn() with hours", x, x.dawn(), Check.STATE, before);
        x.begins(0);
        C.due("dawn() with one open", x.dawn(), 1);
        C.due("the next night", x.now(0), 1);
        C.due("its hours", x.now(1), 2);
        C.due("saved once", x.now(5), 1);
        x.tells();
        x.silent();
        C.due("dawn() with none open", x.dawn(), 0);
        C.due("she lives no more", x.now(4), 0);
        C.due("the night stays", x.now(0), 1);
        C.due("no hours", x.now(1), 0);
        C.due("saved once still", x.now(5), 1);
        before = Check.stateOf(x);
        refused("dawn() of one who lives no more", x, x.dawn(), Check.STATE, before);
        refused("begins() of one who lives no more", x, x.begins(0), Check.STATE, before);
        refused("tells() of one who lives no more", x, x.tells(), Check.STATE, before);
    }

    /** With memory 2 a tale is forgotten at the second dawn after the night in which it was told of. */
    private static void memory() {
        C.sentence("Promise 10", "0: she LIVES no more.");
        DawnTales x = Check.told("n 1;m 2;t 9 9;t 9 9;");
        x.begins(0);
        C.due("told of this night", x.dawn(), 1);
        x.begins(1);
        C.due("told of the night before", x.dawn(), 1);
        x.tells();
        C.due("forgotten, though another was told", x.dawn(), 0);
        C.due("two are open", x.now(2), 2);
        DawnTales y = Check.told("n 1;m 1;t 9 9;");
        y.begins(0);
        C.due("memory 1, told", y.dawn(), 1);
        y.silent();
        C.due("memory 1, silent", y.dawn(), 0);
        DawnTales z = Check.told("n 1;m 9;t 9 9;");
        z.begins(0);
        for (int i = 0; i < 9; i++) {
            C.due("memory 9, dawn " + i, z.dawn(), 1);
            z.silent();
        }
        C.due("memory 9, forgotten", z.dawn(), 0);
    }

    private static void nightsComeRound() {
        C.sentence("Promise 10", "1: she is SAVED");
        DawnTales x = Check.told("n 3 1 2;m 9;t 9 9;t 9 9;");
        int[] due = {3, 1, 2, 3, 1, 2};
        for (int night = 0; night < due.length; night++) {
            C.due("hours of night " + night, x.now(1), due[night]);
            if (night == 0) {
                x.begins(0);
                x.begins(1);
            }
            while (x.now(1) > 0) {
                x.tells();
            }
            C.due("dawn of night " + night, x.dawn(), 1);
        }
    }

    private static void lastNight() {
        C.sentence("Promise 10", "it is NIGHT 99.");
        DawnTales x = Long99.night99();
        C.due("night 99", x.now(0), 99);
        C.due("saved 99 times", x.now(5), 99);
        C.due("tells() in night 99", x.tells(), 0);
        String before = Check.stateOf(x);
        refused("dawn() of night 99", x, x.dawn(), Check.STATE, before);
        C.due("she lives", x.now(4), 1);
        C.due("nor is she saved by going on", x.on(), 0);
        x.undo();
        x.undo();
        C.due("night 98 again", x.now(0), 98);
        C.due("one dawn by going on", x.on(), 1);
    }

    private static void undo() {
        C.sentence("Promise 11", "UNDONE: how many more may be. STATE: none.");
        DawnTales x = Check.told("n 9;t 9 9;");
        C.due("undo() of nothing", x.undo(), Check.STATE);
        x.begins(0);
        for (int i = 0; i < 8; i++) {
            x.tells();
        }
        C.due("nine to be undone", x.count(5), 9);
        x.dawn();
        C.due("ten", x.count(5), 10);
        C.due("a refused call is none", x.begins(5), Check.BAD);
        C.due("ten still", x.count(5), 10);
        for (int i = 9; i >= 0; i--) {
            C.due("undo()", x.undo(), i);
        }
        C.due("all is undone", x.tale(0, 3), 0);
        for (int i = 0; i < 9; i++) {
            x.silent();
        }
        x.dawn();
        C.due("she lives no more", x.now(4), 0);
        C.due("undo() of that", x.undo(), 9);
        C.due("she lives", x.now(4), 1);
        DawnTales y = Check.told("n 9 3;t 9 9;t 9 9;");
        y.begins(1);
        for (int i = 0; i < 8; i++) {
            y.silent();
        }
        y.dawn();
        y.silent();
        C.due("ten at most", y.count(5), 10);
        for (int i = 9; i >= 0; i--) {
            C.due("undo() of the latest ten", y.undo(), i);
        }
        C.due("the oldest is lost", y.undo(), Check.STATE);
        C.due("what it did stays", y.tale(1, 3), 1);
        C.due("hours as ahead of the tenth", y.now(1), 8);
    }

    private static void undoOfEach() {
        C.sentence("Promise 11", "UNDONE: how many more may be.");
        DawnTales x = Check.told("n 4 2;m 5;t 2 9;t 3 9;");
        String[] states = new String[8];
        states[0] = Check.nowOf(x);
        x.begins(1);
        states[1] = Check.nowOf(x);
        x.begins(0);
        states[2] = Check.nowOf(x);
        x.tells();
        states[3] = Check.nowOf(x);
        x.silent();
        states[4] = Check.nowOf(x);
        x.dawn();
        states[5] = Check.nowOf(x);
        x.tells();
        states[6] = Check.nowOf(x);
        x.tells();
        for (int i = 6; i >= 0; i--) {
            C.due("undo() to " + i, x.undo(), i);
            C.due("as ahead of it " + i, states[i].equals(Check.nowOf(x)) ? 1 : 0, 1);
        }
    }

    private static void now() {
        C.sentence("Promise 12", "0 NIGHT, 1 HOURS LEFT, 2 how many are OPEN, 3 the innermost (NONE), 4 whether she LIVES, 5 how often she was SAVED, 6 TALES at their END (bits), 7 TALES that may be begun now (bits). BAD.");
        DawnTales x = Check.told("n 4 3;t 3 9;t 2 0;t 1 9;t 1 1;");
        nowIs(x, 0, 4, 0, Check.NONE, 1, 0, 0, 5);
        x.begins(0);
        nowIs(x, 0, 3, 1, 0, 1, 0, 0, 6);
        x.begins(1);
        nowIs(x, 0, 2, 2, 1, 1, 0, 0, 12);
        x.begins(3);
        nowIs(x, 0, 1, 2, 1, 1, 0, 8, 4);
        x.tells();
        nowIs(x, 0, 0, 1, 0, 1, 0, 10, 0);
        x.dawn();
        nowIs(x, 1, 3, 1, 0, 1, 1, 10, 4);
        x.tells();
        x.tells();
        x.silent();
        x.dawn();
        nowIs(x, 1, 0, 0, Check.NONE, 0, 1, 11, 0);
        C.due("now(-1)", x.now(-1), Check.BAD);
        C.due("now(8)", x.now(8), Check.BAD);
    }

    private static void nowIs(DawnTales x, int... want) {
        for (int w = 0; w < want.length; w++) {
            C.due("now(" + w + ")", x.now(w), want[w]);
        }
    }
}
