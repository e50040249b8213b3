/** Promises 13 to 19: on, by, best, fewest, mind, bars, longer. */
public final class RowsTest {
    private static final Check C = new Check("RowsTest");

    public static void main(String[] args) {
        on();
        by();
        byWaits();
        best();
        fewest();
        mind();
        bars();
        longer();
        nothingChanges();
        C.finish();
    }

    private static void on() {
        C.sentence("Promise 13", "ON.");
        DawnTales x = Check.told("n 2;t 9 9;t 4 9;");
        C.due("on() with none open", x.on(), 0);
        x.begins(0);
        C.due("on() of nine parts, one told", x.on(), 4);
        x.begins(1);
        C.due("on() of two: the outer one comes before it is forgotten", x.on(), 6);
        x.dawn();
        C.due("on() from the next night", x.on(), 5);
        DawnTales y = Check.told("n 1;m 2;t 9 9;t 9 9;");
        y.begins(0);
        y.dawn();
        y.begins(1);
        C.due("on() till the outer one is forgotten", y.on(), 1);
        y.dawn();
        y.tells();
        y.dawn();
        C.due("on() of one who lives no more", y.on(), 0);
        DawnTales z = Check.told("n 1 1 1 1 1 1 1 9;m 9;t 9 9;t 1 9;");
        z.begins(0);
        C.due("on() through nights that come round", z.on(), 7);
    }

    private static void by() {
        C.sentence("Promise 14", "BY a row. BAD (a figure of none, one twice).");
        DawnTales x = Check.told("n 2;t 3 9;t 3 0;t 1 9;");
        C.due("by(0)", x.by(0), 0);
        C.due("by(1): 3 parts in 2 hours", x.by(1), 1);
        C.due("by(12)", x.by(12), 2);
        C.due("by(2): nowhere", x.by(2), 0);
        C.due("by(21): blocked", x.by(21), 0);
        C.due("by(31)", x.by(31), 1);
        C.due("by(123)", x.by(123), 3);
        C.due("by(132)", x.by(132), 3);
        C.due("by(-1)", x.by(-1), Check.BAD);
        C.due("by(4)", x.by(4), Check.BAD);
        C.due("by(10)", x.by(10), Check.BAD);
        C.due("by(101)", x.by(101), Check.BAD);
        C.due("by(11)", x.by(11), Check.BAD);
        C.due("by(1231)", x.by(1231), Check.BAD);
        C.due("by(most)", x.by(Integer.MAX_VALUE), Check.BAD);
        C.due("by(least)", x.by(Integer.MIN_VALUE), Check.BAD);
        DawnTales y = new DawnTales();
        C.due("by(0) of no tales", y.by(0), 0);
        C.due("by(1) of no tales", y.by(1), Check.BAD);
        DawnTales z = Check.told("t 9 9;t 9 9;t 9 9;t 9 9;t 9 9;t 9 9;");
        C.due("by(1234567)", z.by(1234567), Check.BAD);
        C.due("by(1234561)", z.by(1234561), Check.BAD);
    }

    /** The next one waits till one part is left of the innermost, and for its depth. */
    private static void byWaits() {
        C.sentence("Promise 14", "BY a row.");
        DawnTales x = Check.told("n 1;m 9;d 1;t 3 9;t 3 9;");
        C.due("depth 1: the second may not be within", x.by(12), 2);
        DawnTales y = Check.told("n 1;m 9;d 2;t 3 9;t 3 9;");
        C.due("depth 2: it may", y.by(12), 5);
        DawnTales z = Check.told("n 1;m 2;t 3 9;t 3 9;");
        C.due("the outer one is forgotten", z.by(12), 3);
    }

    private static void best() {
        C.sentence("Promise 15", "BEST: DAWNS (what = 0), the row (1). BAD.");
        DawnTales x = Check.told("n 2;t 3 9;t 3 0;t 1 9;");
        C.due("best(0)", x.best(0), 3);
        C.due("best(1)", x.best(1), 123);
        C.due("best(-1)", x.best(-1), Check.BAD);
        C.due("best(2)", x.best(2), Check.BAD);
        DawnTales none = new DawnTales();
        C.due("best(0) of none", none.best(0), 0);
        C.due("best(1) of none", none.best(1), 0);
        DawnTales y = Check.told("n 9;t 2 9;t 2 9;");
        C.due("none is better: no row", y.best(1), 0);
        DawnTales z = Check.told("n 1;t 2 9;t 4 9;t 4 9;m 1;");
        C.due("of fewest tales, the first by figures", z.best(1), 2);
    }

    private static void fewest() {
        C.sentence("Promise 16", "FEWEST: how many (what = 0), the row (1); NONE. BAD.");
        DawnTales x = Check.told("n 2;t 3 9;t 3 0;t 1 9;");
        C.due("fewest(0, 0)", x.fewest(0, 0), 0);
        C.due("fewest(0, 1)", x.fewest(0, 1), 0);
        C.due("fewest(1, 0)", x.fewest(1, 0), 1);
        C.due("fewest(1, 1)", x.fewest(1, 1), 1);
        C.due("fewest(2, 0)", x.fewest(2, 0), 2);
        C.due("fewest(2, 1)", x.fewest(2, 1), 12);
        C.due("fewest(3, 0)", x.fewest(3, 0), 3);
        C.due("fewest(3, 1)", x.fewest(3, 1), 123);
        C.due("fewest(4, 0)", x.fewest(4, 0), Check.NONE);
        C.due("fewest(30, 1)", x.fewest(30, 1), Check.NONE);
        C.due("fewest(31, 0)", x.fewest(31, 0), Check.BAD);
        C.due("fewest(-1, 0)", x.fewest(-1, 0), Check.BAD);
        C.due("fewest(1, 2)", x.fewest(1, 2), Check.BAD);
        C.due("fewest(1, -1)", x.fewest(1, -1), Check.BAD);
    }

    /** By 12 two are open at the second dawn; by 234 the second one is alone at all three. */
    private static void mind() {
        C.sentence("Promise 17", "MIND: how many (what = 0), the row (1); NONE. BAD.");
        DawnTales x = Check.told("n 1;m 3;t 2 9;t 2 9;t 1 1;t 1 9;");
        C.due("fewest(3, 0)", x.fewest(3, 0), 2);
        C.due("fewest(3, 1)", x.fewest(3, 1), 12);
        C.due("mind(1, 1)", x.mind(1, 1), 1);
        C.due("mind(2, 0)", x.mind(2, 0), 1);
        C.due("mind(2, 1)", x.mind(2, 1), 14);
        C.due("mind(3, 0): more tales, but fewer to keep in mind", x.mind(3, 0), 1);
        C.due("mind(3, 1)", x.mind(3, 1), 234);
        C.due("mind(30, 0)", x.mind(30, 0), Check.NONE);
        C.due("mind(30, 1)", x.mind(30, 1), Check.NONE);
        DawnTales six = Check.told("n 9;m 9;t 9 9;t 9 9;t 9 9;t 9 9;t 9 9;t 9 9;");
        C.due("mind(1, 0) of six", six.mind(1, 0), 2);
        C.due("mind(4, 0) of six", six.mind(4, 0), 5);
        C.due("mind(5, 0) of six", six.mind(5, 0), 6);
        C.due("mind(5, 1) of six", six.mind(5, 1), 123456);
        C.due("mind(0, 0)", x.mind(0, 0), Check.BAD);
        C.due("mind(31, 0)", x.mind(31, 0), Check.BAD);
        C.due("mind(1, 2)", x.mind(1, 2), Check.BAD);
        C.due("mind(1, -1)", x.mind(1, -1), Check.BAD);
    }

    private static void bars() {
        C.sentence("Promise 18", "BARS; NONE. BAD (d 1 .. 30).");
        DawnTales x = Check.told("n 2;t 2 9;t 5 9;t 2 1;t 5 9;t 1 9;");
        C.due("bars(1): another does as well", x.bars(1), Check.NONE);
        C.due("bars(30): not with it, either", x.bars(30), Check.NONE);
        C.due("bars(0)", x.bars(0), Check.BAD);
        C.due("bars(31)", x.bars(31), Check.BAD);
        C.due("bars(-1)", x.bars(-1), Check.BAD);
        DawnTales y = Check.told("n 3;t 1 9;t 4 9;t 3 1;");
        C.due("bars(1)", y.bars(1), 1);
        C.due("bars(2): not the first of the row", y.bars(2), 1);
        C.due("bars(3)", y.bars(3), Check.NONE);
        DawnTales z = Check.told("n 3;t 4 9;t 3 0;t 1 9;");
        C.due("bars(2): the first of two that are needed", z.bars(2), 0);
    }

    private static void longer() {
        C.sentence("Promise 19", "LONGER.");
        DawnTales x = Check.told("n 1;t 9 9;");
        C.due("longer(): 8 dawns, then 4", x.longer(), -4);
        C.due("longer() again", x.longer(), -4);
        C.due("best(0) after it", x.best(0), 8);
        C.due("hours after it", x.hours(0), 1);
        DawnTales y = Check.told("n 9;t 9 9;t 9 9;");
        C.due("by 10 hours", y.longer(), 0);
        DawnTales z = Check.told("n 1;m 1;t 9 9;t 9 0;t 9 1;d 1;");
        C.due("a depth of 1: 8 dawns, then 4", z.longer(), -4);
        DawnTales more = Check.told("d 1;n 5;t 5 9;t 5 9;");
        C.due("best(0) of five hours", more.best(0), 0);
        C.due("the second one is begun in the sixth hour", more.longer(), 1);
        C.due("best(0) after it is as before", more.best(0), 0);
        C.due("longer() of none", new DawnTales().longer(), 0);
    }

    private static void nothingChanges() {
        C.sentence("Terms 3", "(Nothing is changed.)");
        DawnTales x = Check.told("n 2 3;m 2;t 3 9;t 3 0;t 1 9;");
        x.begins(0);
        x.tells();
        x.dawn();
        x.heard(1, 1);
        String before = Check.stateOf(x);
        x.on();
        x.by(123);
        x.best(0);
        x.fewest(2, 0);
        x.mind(2, 0);
        x.bars(2);
        x.longer();
        x.orders(0);
        x.surely(1);
        C.due("what comes changes nothing", before.equals(Check.stateOf(x)) ? 1 : 0, 1);
        C.due("rows are from the beginning all the same", x.by(1), 1);
    }
}
