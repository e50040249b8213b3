/** Terms, part 2, sentence by sentence: what is open, hours, dawns, what is forgotten, what is undone. */
public final class Terms2Test {
    private static final Check C = new Check("Terms2Test");

    public static void main(String[] args) {
        openIsARow();
        partsLeft();
        atItsEnd();
        nightAtFirst();
        beginsNotBegun();
        beginsIsInnermost();
        fewerThanDepth();
        withinTheInnermost();
        tellsOfTheInnermost();
        onePartAtOnce();
        silent();
        hoursLeftAlone();
        forgottenAtMemory();
        outermostIsForgotten();
        endedIsNotForgotten();
        noneOpen();
        savedOnceMore();
        nextNight();
        night99();
        livesNoMore();
        undone();
        tenAreKnown();
        refusedIsNotUndone();
        C.finish();
    }

    private static void refused(String what, DawnTales x, int got, int want, String before) {
        C.due(what, got, want);
        C.same(what + " changes nothing", Check.stateOf(x), before);
    }

    private static void openIsARow() {
        C.sentence("Terms 2", "OPEN is a row of TALES, the last one innermost (none at first)");
        DawnTales x = Check.told("n 9;t 3 9;t 3 9;t 3 9;t 3 9;t 3 9;t 3 9;");
        C.due("none is open", x.now(2), 0);
        C.due("none is innermost", x.now(3), Check.NONE);
        int[] row = {4, 0, 5, 2, 1, 3};
        for (int place = 0; place < 6; place++) {
            C.due("no place yet", x.tale(row[place], 4), Check.NONE);
            x.begins(row[place]);
            C.due("innermost", x.now(3), row[place]);
            C.due("open", x.now(2), place + 1);
            for (int i = 0; i <= place; i++) {
                C.due("place of " + row[i], x.tale(row[i], 4), i);
            }
        }
    }

    private static void partsLeft() {
        C.sentence("Terms 2", "a TALE has PARTS LEFT, is BEGUN or not");
        DawnTales x = Check.told("n 9;t 3 9;t 9 9;");
        C.due("all parts at first", x.tale(0, 2), 3);
        C.due("not begun at first", x.tale(0, 3), 0);
        x.begins(0);
        C.due("one less", x.tale(0, 2), 2);
        C.due("begun", x.tale(0, 3), 1);
        C.due("of the other all", x.tale(1, 2), 9);
        C.due("the other is not begun", x.tale(1, 3), 0);
        x.tells();
        x.tells();
        C.due("begun at its end, too", x.tale(0, 3), 1);
    }

    private static void atItsEnd() {
        C.sentence("Terms 2", "at its END if it is BEGUN and none are LEFT");
        DawnTales x = Check.told("n 9;t 2 9;t 1 9;t 1 9;t 2 9;t 2 9;t 1 9;");
        C.due("none at first", x.now(6), 0);
        x.begins(0);
        C.due("one part left", x.now(6), 0);
        x.tells();
        C.due("none left", x.now(6), 1);
        x.begins(5);
        C.due("the sixth, too", x.now(6), 33);
        x.begins(3);
        x.begins(2);
        C.due("the third, too", x.now(6), 37);
    }

    private static void nightAtFirst() {
        C.sentence("Terms 2", "NIGHT 0 at first; HOURS LEFT of it (all at first); she LIVES.");
        DawnTales x = Check.told("n 7 2;t 2 9;");
        C.due("night", x.now(0), 0);
        C.due("hours left", x.now(1), 7);
        C.due("lives", x.now(4), 1);
        C.due("saved", x.now(5), 0);
    }

    private static void beginsNotBegun() {
        C.sentence("Terms 2", "BEGINS a TALE that is not BEGUN");
        DawnTales x = Check.told("n 9;t 2 9;t 9 9;");
        x.begins(0);
        String before = Check.stateOf(x);
        refused("begins(0) of one that is open", x, x.begins(0), Check.STATE, before);
        x.tells();
        before = Check.stateOf(x);
        refused("begins(0) of one at its end", x, x.begins(0), Check.STATE, before);
        C.due("begins(1) of one that is not begun", x.begins(1), 6);
    }

    private static void beginsIsInnermost() {
        C.sentence("Terms 2", "it is OPEN and innermost, its first part is told");
        DawnTales x = Check.told("n 9;t 4 9;t 4 9;");
        x.begins(1);
        C.due("hours left of begins", x.begins(0), 7);
        C.due("innermost", x.now(3), 0);
        C.due("first part told", x.tale(0, 2), 3);
        C.due("none of the other's", x.tale(1, 2), 3);
        C.due("told of in night 0", x.tale(0, 5), 0);
    }

    private static void fewerThanDepth() {
        C.sentence("Terms 2", "(fewer than DEPTH are OPEN;");
        for (int depth = 1; depth <= 6; depth++) {
            DawnTales x = Check.told("n 9;d " + depth + ";t 2 9;t 2 9;t 2 9;t 2 9;t 2 9;t 2 9;");
            for (int t = 0; t < depth; t++) {
                C.due("fewer than " + depth, x.begins(t), 8 - t);
            }
            if (depth < 6) {
                C.due("may begin", x.now(7), 0);
                String before = Check.stateOf(x);
                refused("begins at depth " + depth, x, x.begins(5), Check.STATE, before);
                x.tells();
                C.due("one fewer", x.begins(5), 7 - depth);
            }
        }
    }

    private static void withinTheInnermost() {
        C.sentence("Terms 2", "it is WITHIN the innermost, or whichever)");
        DawnTales x = Check.told("n 9;t 3 9;t 3 0;t 3 0;t 1 9;");
        C.due("may begin with none open", x.now(7), 9);
        String before = Check.stateOf(x);
        refused("begins(1) with none open", x, x.begins(1), Check.STATE, before);
        x.begins(0);
        C.due("may begin with 0 innermost", x.now(7), 14);
        x.begins(1);
        C.due("may begin with 1 innermost", x.now(7), 8);
        before = Check.stateOf(x);
        refused("begins(2) with 0 open, not innermost", x, x.begins(2), Check.STATE, before);
        C.due("whichever", x.begins(3), 6);
        x.tells();
        x.tells();
        C.due("0 is innermost again", x.begins(2), 3);
        DawnTales y = Check.told("n 9;t 1 9;t 3 0;");
        y.begins(0);
        before = Check.stateOf(y);
        refused("begins(1) with 0 at its end", y, y.begins(1), Check.STATE, before);
    }

    private static void tellsOfTheInnermost() {
        C.sentence("Terms 2", "TELLS: a part of the innermost. A part takes an HOUR, one less is LEFT of that TALE");
        DawnTales x = Check.told("n 9;t 4 9;t 3 9;");
        x.begins(0);
        x.begins(1);
        C.due("hours left", x.tells(), 6);
        C.due("the innermost's parts left", x.tale(1, 2), 1);
        C.due("the outer one's", x.tale(0, 2), 3);
        x.tells();
        C.due("the outer one is innermost then", x.now(3), 0);
        C.due("hours left of the outer one's part", x.tells(), 4);
        C.due("the outer one's parts left", x.tale(0, 2), 2);
    }

    private static void onePartAtOnce() {
        C.sentence("Terms 2", "if none: it is at its END and not OPEN any more (a TALE of one part at once)");
        DawnTales x = Check.told("n 9;d 1;t 1 9;t 2 9;t 1 9;");
        C.due("begins(0)", x.begins(0), 8);
        C.due("at its end", x.now(6), 1);
        C.due("not open", x.now(2), 0);
        C.due("no place", x.tale(0, 4), Check.NONE);
        C.due("told of", x.tale(0, 5), 0);
        x.begins(1);
        C.due("one part left", x.now(2), 1);
        x.tells();
        C.due("none left", x.now(2), 0);
        C.due("both at their end", x.now(6), 3);
        x.begins(2);
        C.due("all", x.now(6), 7);
    }

    private static void silent() {
        C.sentence("Terms 2", "SILENT: an HOUR goes by.");
        DawnTales x = Check.told("n 3;t 4 9;");
        x.begins(0);
        C.due("hours left", x.silent(), 1);
        C.due("hours left again", x.silent(), 0);
        C.due("parts left as before", x.tale(0, 2), 3);
        C.due("night as before", x.now(0), 0);
    }

    private static void hoursLeftAlone() {
        C.sentence("Terms 2", "All are for HOURS LEFT alone.");
        DawnTales x = Check.told("n 1;t 4 9;t 1 9;");
        x.begins(0);
        String before = Check.stateOf(x);
        C.due("may begin", x.now(7), 0);
        refused("begins(1)", x, x.begins(1), Check.STATE, before);
        refused("tells()", x, x.tells(), Check.STATE, before);
        refused("silent()", x, x.silent(), Check.STATE, before);
        C.due("dawn()", x.dawn(), 1);
        C.due("may begin then", x.now(7), 2);
    }

    /** Told of once in night 0, with silence then: so many dawns, and no more. */
    private static void forgottenAtMemory() {
        C.sentence("Terms 2", "was not told of (no part) in as many NIGHTS as MEMORY, the one that ends now, too, is FORGOTTEN");
        for (int memory = 1; memory <= 9; memory++) {
            DawnTales x = Check.told("n 1;m " + memory + ";t 9 9;");
            x.begins(0);
            for (int night = 0; night < memory; night++) {
                C.due("dawn of night " + night + " by memory " + memory, x.dawn(), 1);
                x.silent();
            }
            C.due("dawn of night " + memory + " by memory " + memory, x.dawn(), 0);
            C.due("lives", x.now(4), 0);
            x.undo();
            x.undo();
            x.tells();
            C.due("told of in the last night", x.dawn(), 1);
        }
    }

    private static void outermostIsForgotten() {
        C.sentence("Terms 2", "If no TALE is OPEN or one is FORGOTTEN, she LIVES no more");
        DawnTales x = Check.told("n 2 1;m 2;t 9 9;t 9 9;t 9 9;");
        x.begins(2);
        x.begins(0);
        C.due("both told of", x.dawn(), 1);
        x.tells();
        C.due("the outer one was told of the night before", x.dawn(), 1);
        x.tells();
        x.begins(1);
        C.due("the outer one is forgotten", x.dawn(), 0);
        C.due("lives", x.now(4), 0);
        C.due("all are open still", x.now(2), 3);
    }

    private static void endedIsNotForgotten() {
        C.sentence("Terms 2", "a TALE that is OPEN and was not told of");
        DawnTales x = Check.told("n 2 1;m 1;t 1 9;t 9 9;t 9 9;");
        x.begins(0);
        x.begins(1);
        for (int dawn = 0; dawn < 6; dawn++) {
            C.due("one at its end, one not begun", x.dawn(), 1);
            while (x.now(1) > 0 && x.tale(1, 2) > 1) {
                x.tells();
            }
        }
    }

    private static void noneOpen() {
        C.sentence("Terms 2", "If no TALE is OPEN");
        DawnTales x = Check.told("n 1;t 1 9;t 2 9;");
        x.begins(0);
        C.due("one at its end", x.dawn(), 0);
        DawnTales y = new DawnTales();
        for (int i = 0; i < 5; i++) {
            y.silent();
        }
        C.due("none at all", y.dawn(), 0);
        C.due("lives", y.now(4), 0);
        C.due("saved", y.now(5), 0);
        C.due("night", y.now(0), 0);
        C.due("hours left", y.now(1), 0);
    }

    private static void savedOnceMore() {
        C.sentence("Terms 2", "else she is SAVED once more");
        DawnTales x = Check.told("n 1;t 9 9;");
        x.begins(0);
        for (int saved = 1; saved <= 7; saved++) {
            C.due("dawn()", x.dawn(), 1);
            C.due("saved", x.now(5), saved);
            C.due("lives", x.now(4), 1);
            x.tells();
        }
    }

    private static void nextNight() {
        C.sentence("Terms 2", "and the next NIGHT begins (NIGHT one more");
        DawnTales x = Check.told("n 1 3;t 9 9;");
        x.begins(0);
        x.dawn();
        C.due("night", x.now(0), 1);
        C.due("hours left", x.now(1), 3);
        x.tells();
        C.due("told of in night 1", x.tale(0, 5), 1);
        x.silent();
        x.silent();
        x.dawn();
        C.due("night", x.now(0), 2);
        C.due("hours left", x.now(1), 1);
        C.due("parts left as before", x.tale(0, 2), 7);
        C.due("told of in night 1 still", x.tale(0, 5), 1);
    }

    private static void night99() {
        C.sentence("Terms 2", "99 at most)");
        DawnTales x = Long99.night99();
        C.due("night", x.now(0), 99);
        C.due("saved", x.now(5), 99);
        String before = Check.stateOf(x);
        refused("dawn() with an hour left", x, x.dawn(), Check.STATE, before);
        C.due("silent()", x.silent(), 0);
        before = Check.stateOf(x);
        refused("dawn() of night 99", x, x.dawn(), Check.STATE, before);
        C.due("lives", x.now(4), 1);
        C.due("on()", x.on(), 0);
        C.due("undo()", x.undo(), 9);
        C.due("undo() of the dawn of night 98", x.undo(), 8);
        C.due("night 98", x.now(0), 98);
        C.due("on() from there", x.on(), 1);
        C.due("dawn() of night 98", x.dawn(), 1);
    }

    private static void livesNoMore() {
        C.sentence("Terms 2", "Who LIVES no more does nothing.");
        DawnTales x = Check.told("n 2;m 1;t 9 9;t 2 0;");
        x.begins(0);
        x.silent();
        x.dawn();
        x.silent();
        x.silent();
        x.dawn();
        C.due("lives", x.now(4), 0);
        C.due("may begin", x.now(7), 0);
        C.due("on()", x.on(), 0);
        String before = Check.stateOf(x);
        refused("begins(1)", x, x.begins(1), Check.STATE, before);
        refused("tells()", x, x.tells(), Check.STATE, before);
        refused("silent()", x, x.silent(), Check.STATE, before);
        refused("dawn()", x, x.dawn(), Check.STATE, before);
        C.due("undo() is no deed of hers", x.undo(), 5);
        C.due("she lives then", x.now(4), 1);
    }

    private static void undone() {
        C.sentence("Terms 2", "UNDONE: the latest of BEGINS, TELLS, SILENT, DAWN");
        DawnTales x = Check.told("n 3 1;m 1;t 2 9;t 3 9;");
        int[] due = {2, 1, 0, 1, 0, 0};
        String[] states = new String[6];
        for (int i = 0; i < 6; i++) {
            states[i] = Check.nowOf(x);
            int got = i == 0 ? x.begins(1) : i == 1 ? x.begins(0) : i == 2 ? x.tells() : i == 4 ? x.silent() : x.dawn();
            C.due("call " + i, got, due[i]);
            C.due("how many may be undone", x.count(5), i + 1);
        }
        C.due("lives, after she was forgotten", x.now(4), 0);
        for (int i = 5; i >= 0; i--) {
            C.due("undo()", x.undo(), i);
            C.same("as ahead of call " + i, Check.nowOf(x), states[i]);
        }
        C.due("none is left", x.undo(), Check.STATE);
    }

    private static void tenAreKnown() {
        C.sentence("Terms 2", "(10 are known, older ones are lost): all is as ahead of it.");
        DawnTales x = Check.told("n 9;t 9 9;t 9 9;");
        String[] states = new String[13];
        for (int i = 0; i < 12; i++) {
            states[i] = Check.nowOf(x).replaceAll(" \\d+$", "");
            int got = i == 0 ? x.begins(1) : i == 2 ? x.begins(0) : i == 9 ? x.dawn() : i % 3 == 0 ? x.silent() : x.tells();
            C.due("call " + i, got < 0 ? 0 : 1, 1);
            C.due("how many may be undone", x.count(5), Math.min(i + 1, 10));
        }
        for (int i = 11; i >= 2; i--) {
            C.due("undo()", x.undo(), i - 2);
            C.same("as ahead of call " + i, Check.nowOf(x).replaceAll(" \\d+$", ""), states[i]);
        }
        C.due("the older ones are lost", x.undo(), Check.STATE);
        x.silent();
        C.due("one anew", x.count(5), 1);
        C.due("that one is undone", x.undo(), 0);
    }

    private static void refusedIsNotUndone() {
        C.sentence("Refused", "Refused, and nothing changes");
        DawnTales x = Check.told("n 2;t 2 9;");
        x.begins(0);
        x.begins(0);
        x.begins(7);
        x.dawn();
        x.undo();
        C.due("nothing refused is undone: begins was", x.tale(0, 3), 0);
        C.due("nothing more is", x.undo(), Check.STATE);
    }
}
