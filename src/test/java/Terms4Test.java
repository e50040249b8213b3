/** Terms, part 4, sentence by sentence: kinds, the trace, images, a text read anew. */
public final class Terms4Test {
    private static final Check C = new Check("Terms4Test");

    public static void main(String[] args) {
        sixKinds();
        tale();
        borrowed();
        ring();
        trueKind();
        endless();
        joke();
        traceOfBodies();
        traceOfRefused();
        twoImages();
        imagesKeepNow();
        imagesKeepLife();
        imagesKeepUndone();
        imagesKeepNothingElse();
        imagesStay();
        readAnew();
        faultIsNotReadAnew();
        C.finish();
    }

    /** Tale 0: 7 parts, 5 left, two within it; tale 1: 3 parts, 2 left; tale 2: at its end; night 2. */
    private static DawnTales inTheMiddle() {
        DawnTales x = Check.told("n 3;t 7 9;t 3 0;t 1 1;t 4 0;");
        x.begins(0);
        x.tells();
        x.begins(1);
        x.dawn();
        x.begins(2);
        x.silent();
        x.silent();
        x.dawn();
        return x;
    }

    private static void marks(DawnTales x, int kind, int... due) {
        for (int t = 0; t < due.length; t++) {
            C.due("mark(" + kind + ", " + t + ")", x.mark(kind, t), due[t]);
        }
    }

    private static void sixKinds() {
        C.sentence("Terms 4", "0 TALE; 1 BORROWED, 2 RING, 5 JOKE (each under TALE); 3 TRUE (under BORROWED); 4 ENDLESS (under RING)");
        DawnTales x = inTheMiddle();
        int[] due = {5, 12, 3, 24, 5, 7};
        for (int kind = 0; kind < 6; kind++) {
            C.due("mark(" + kind + ", 0)", x.mark(kind, 0), due[kind]);
        }
        C.due("mark(6, 0)", x.mark(6, 0), DawnTales.NO);
        C.due("mark(-1, 0)", x.mark(-1, 0), DawnTales.NO);
    }

    private static void tale() {
        C.sentence("Terms 4", "TALE its PARTS LEFT (1)");
        marks(inTheMiddle(), 0, 5, 2, 0, 4);
    }

    private static void borrowed() {
        C.sentence("Terms 4", "BORROWED up, and all its PARTS (10)");
        marks(inTheMiddle(), 1, 12, 5, 1, 8);
    }

    private static void ring() {
        C.sentence("Terms 4", "RING up less how many TALES are WITHIN it (100)");
        marks(inTheMiddle(), 2, 3, 1, 0, 4);
        DawnTales x = Check.told("t 1 9;t 1 0;t 1 0;t 1 0;t 1 0;t 1 0;");
        marks(x, 2, -4, 1, 1, 1, 1, 1);
        x.begins(0);
        C.due("below that", x.mark(2, 0), -5);
        C.due("whichever is not within the first", Check.told("t 3 9;t 1 9;").mark(2, 0), 3);
    }

    private static void trueKind() {
        C.sentence("Terms 4", "TRUE up times 2 (1000)");
        marks(inTheMiddle(), 3, 24, 10, 2, 16);
    }

    private static void endless() {
        C.sentence("Terms 4", "ENDLESS up, and how many are OPEN (10000)");
        marks(inTheMiddle(), 4, 5, 3, 2, 6);
        C.due("none open", Check.told("t 9 9;").mark(4, 0), 9);
    }

    private static void joke() {
        C.sentence("Terms 4", "JOKE up, and the NIGHT (100000)");
        marks(inTheMiddle(), 5, 7, 4, 2, 6);
        DawnTales x = Long99.night99();
        C.due("night 99", x.mark(5, 1), 6 + 99);
        C.due("night 0", Check.told("t 9 9;").mark(5, 0), 9);
    }

    private static void traceOfBodies() {
        C.sentence("Terms 4", "numbers in brackets come to THE TRACE as often as mark() asks that body");
        long[] due = {1, 11, 101, 1011, 10101, 100001};
        for (int kind = 0; kind < 6; kind++) {
            DawnTales x = inTheMiddle();
            C.due("at first", x.trace(), 0);
            for (int times = 1; times <= 3; times++) {
                x.mark(kind, times % 4);
                C.due("of kind " + kind + ", " + times + " times", x.trace(), due[kind] * times);
            }
        }
        DawnTales all = inTheMiddle();
        for (int kind = 0; kind < 6; kind++) {
            all.mark(kind, 0);
        }
        C.due("of all kinds", all.trace(), 111226);
        C.due("once more: it is not used up", all.trace(), 111226);
        DawnTales many = Check.told("t 9 9;");
        for (int i = 0; i < 500; i++) {
            many.mark(5, 0);
        }
        C.due("of 500 jokes", many.trace(), 50000500L);
    }

    private static void traceOfRefused() {
        C.sentence("Promise 25", "NO: BAD");
        DawnTales x = inTheMiddle();
        int[][] bad = {{-1, 0}, {6, 0}, {0, -1}, {0, 4}, {5, 4}, {5, 6}, {6, 6}, {3, 9}};
        for (int[] b : bad) {
            C.due("mark(" + b[0] + ", " + b[1] + ")", x.mark(b[0], b[1]), DawnTales.NO);
        }
        C.due("no body was asked", x.trace(), 0);
        C.due("no tales", new DawnTales().mark(0, 0), DawnTales.NO);
    }

    private static void twoImages() {
        C.sentence("Terms 4", "IMAGES 0, 1 keep NOW");
        DawnTales x = inTheMiddle();
        C.due("keep(-1)", x.keep(-1), Check.BAD);
        C.due("keep(2)", x.keep(2), Check.BAD);
        C.due("back(0) of none", x.back(0), Check.STATE);
        C.due("back(1) of none", x.back(1), Check.STATE);
        C.due("keep(1)", x.keep(1), 2);
        C.due("back(0) still of none", x.back(0), Check.STATE);
        C.due("back(1)", x.back(1), 2);
        C.due("back(2)", x.back(2), Check.BAD);
        C.due("back(-1)", x.back(-1), Check.BAD);
    }

    private static void imagesKeepNow() {
        C.sentence("Terms 4", "(NIGHT, HOURS LEFT, TALES, how often she was SAVED");
        DawnTales x = inTheMiddle();
        x.tells();
        String first = Check.stateOf(x);
        C.due("keep(0)", x.keep(0), 2);
        x.tells();
        x.begins(3);
        x.dawn();
        x.tells();
        String second = Check.stateOf(x);
        C.due("keep(1)", x.keep(1), 3);
        x.silent();
        x.silent();
        C.due("dawn(): the outermost is forgotten", x.dawn(), 0);
        C.due("back(0)", x.back(0), 2);
        C.same("image 0", Check.stateOf(x), first);
        C.due("back(1)", x.back(1), 3);
        C.same("image 1", Check.stateOf(x), second);
    }

    private static void imagesKeepLife() {
        C.sentence("Terms 4", "whether she LIVES");
        DawnTales x = Check.told("n 1;t 2 9;");
        C.due("keep(0) alive", x.keep(0), 0);
        x.silent();
        x.dawn();
        C.due("keep(1) no more", x.keep(1), 0);
        C.due("back(0)", x.back(0), 0);
        C.due("lives", x.now(4), 1);
        C.due("tells on", x.begins(0), 0);
        x.dawn();
        C.due("back(1)", x.back(1), 0);
        C.due("lives no more", x.now(4), 0);
        C.due("does nothing", x.begins(0), Check.STATE);
        C.due("undo() of it", x.undo(), 1);
        C.due("lives again", x.now(4), 1);
    }

    private static void imagesKeepUndone() {
        C.sentence("Terms 4", "what may be UNDONE)");
        DawnTales x = Check.told("n 9;t 9 9;");
        x.keep(1);
        x.begins(0);
        x.tells();
        x.silent();
        x.keep(0);
        for (int i = 0; i < 6; i++) {
            x.tells();
        }
        x.dawn();
        for (int i = 0; i < 9; i++) {
            x.silent();
        }
        C.due("ten may be undone", x.count(5), 10);
        x.back(0);
        C.due("three as kept", x.count(5), 3);
        C.due("the silent hour is undone", x.undo(), 2);
        C.due("hours left", x.now(1), 7);
        C.due("the second part is undone", x.undo(), 1);
        C.due("parts left", x.tale(0, 2), 8);
        C.due("the beginning is undone", x.undo(), 0);
        C.due("begun", x.tale(0, 3), 0);
        C.due("no more is", x.undo(), Check.STATE);
        x.back(0);
        C.due("the image knows them still", x.count(5), 3);
        x.back(1);
        C.due("none as kept at first", x.count(5), 0);
        C.due("undo() of none", x.undo(), Check.STATE);
    }

    private static void imagesKeepNothingElse() {
        C.sentence("Terms 4", "nothing else.");
        DawnTales x = Check.told("n 3;t 4 9;t 2 9;");
        x.heard(1, 1);
        x.keep(0);
        x.heard(1, 1);
        x.mark(0, 0);
        Check.write(x, "m 4;");
        C.due("back(0)", x.back(0), 0);
        C.due("heard stays", x.count(4), 2);
        C.due("the trace stays", x.trace(), 1);
        C.due("the text stays", x.count(6), 4);
        x.forget();
        x.heard(1, 2);
        C.due("back(0) again", x.back(0), 0);
        C.due("what was heard is the newer one", x.orders(1), 21);
        C.due("the text is read", x.tales(), 1);
        C.due("it told the memory", x.count(2), 4);
    }

    private static void imagesStay() {
        C.sentence("Promise 27", "All of that becomes as an IMAGE has it: the NIGHT. BAD; STATE: none was kept.");
        DawnTales x = inTheMiddle();
        String kept = Check.nowOf(x);
        x.keep(0);
        for (int i = 0; i < 3; i++) {
            x.tells();
            x.begins(3);
            x.undo();
            x.undo();
            x.undo();
            C.due("back(0)", x.back(0), 2);
            C.same("the image, " + i, Check.nowOf(x), kept);
        }
        x.tells();
        String newer = Check.nowOf(x);
        C.due("keep(0) anew", x.keep(0), 2);
        x.tells();
        x.back(0);
        C.same("the newer image", Check.nowOf(x), newer);
    }

    private static void readAnew() {
        C.sentence("Terms 4", "(Read anew: as told, nothing BEGUN, NIGHT 0, nothing HEARD or to be UNDONE, IMAGES are gone.)");
        DawnTales x = Check.told("n 1 1 1;m 9;d 1;t 9 9;t 2 9;t 1 9;");
        x.begins(0);
        x.dawn();
        x.tells();
        x.dawn();
        x.heard(1, 1);
        x.keep(0);
        x.keep(1);
        C.due("the best of the first text", x.best(1), 1);
        C.due("longer() of the first text", x.longer(), -3);
        x.clear();
        Check.write(x, "n 4;t 2 9;");
        C.due("tales()", x.tales(), 2);
        int[] now = {0, 4, 0, Check.NONE, 1, 0, 0, 1};
        for (int what = 0; what < now.length; what++) {
            C.due("now(" + what + ")", x.now(what), now[what]);
        }
        int[] counts = {1, 1, 3, 6, 0, 0, 0};
        for (int what = 0; what < counts.length; what++) {
            C.due("count(" + what + ")", x.count(what), counts[what]);
        }
        int[] tale = {2, 9, 2, 0, Check.NONE, Check.NONE};
        for (int what = 0; what < tale.length; what++) {
            C.due("tale(0, " + what + ")", x.tale(0, what), tale[what]);
        }
        C.due("tale 1 is gone", x.tale(1, 0), Check.BAD);
        C.due("undo()", x.undo(), Check.STATE);
        C.due("back(0)", x.back(0), Check.STATE);
        C.due("back(1)", x.back(1), Check.STATE);
        C.due("forget()", x.forget(), 0);
        C.due("best(0)", x.best(0), 0);
        C.due("best(1)", x.best(1), 0);
        C.due("longer()", x.longer(), 0);
        C.due("by(2)", x.by(2), Check.BAD);
        C.due("orders(1)", x.orders(1), 1);
        C.due("she who lived no more lives, too", livesAnew(), 1);
    }

    private static int livesAnew() {
        DawnTales x = Check.told("n 1;t 1 9;");
        x.silent();
        x.dawn();
        C.due("lives no more", x.now(4), 0);
        C.due("tales() of nothing", x.tales(), 0);
        return x.now(4);
    }

    private static void faultIsNotReadAnew() {
        C.sentence("Promise 4", "-10 less FAULT: nothing changes.");
        DawnTales x = Check.told("n 3;t 4 9;t 2 9;");
        x.begins(0);
        x.heard(1, 2);
        x.keep(0);
        x.begins(1);
        Check.write(x, "n 9;m 9;d 1;t 1 9;t 1 9;t 1 7;");
        String before = Check.stateOf(x);
        C.due("tales()", x.tales(), -10 - 28);
        C.same("nothing changes", Check.stateOf(x), before);
        C.due("heard is there", x.orders(1), 21);
        C.due("the image is there", x.back(0), 0);
        C.due("hours(0)", x.hours(0), 3);
        x.undo();
        C.due("and what is to be undone", x.tale(0, 3), 0);
        C.due("clear()", x.clear(), 30);
    }
}
