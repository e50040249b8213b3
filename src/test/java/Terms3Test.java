import java.util.function.ToLongFunction;

/** Terms, part 3, sentence by sentence: what comes, what was heard, odds, longer nights. */
public final class Terms3Test {
    private static final Check C = new Check("Terms3Test");
    /** Tale 0 is told in the first hour; each of the others lasts eight nights then, and the next begins in its last one. */
    private static final String THIRTY = "n 2 1 1 1 1 1 1 1;d 1;t 1 9;t 9 9;t 9 9;t 9 9;t 9 9;t 9 9;";

    public static void main(String[] args) {
        nothingIsChanged();
        on();
        onSilent();
        onTillTheEnd();
        byFigures();
        byFromTheBeginning();
        byBeginsTheNext();
        byMayNotBegin();
        bySilent();
        thirtyAtMost();
        thirtiethDawn();
        bestOfNone();
        bestOfFewest();
        bestFirst();
        fewest();
        fewestNone();
        mind();
        mindNone();
        bars();
        sixHeard();
        heardNumbers();
        ordersOfAll();
        ordersSaved();
        ordersNone();
        surely();
        surelyNone();
        odds();
        oddsInLeastTerms();
        longer();
        longerByATenthHour();
        longerBelow0();
        C.finish();
    }

    private static DawnTales inTheMiddle() {
        DawnTales x = Check.told("n 2 3;m 4;t 3 9;t 3 0;t 1 9;");
        x.begins(0);
        x.keep(1);
        x.tells();
        x.dawn();
        x.begins(1);
        x.heard(1, 1);
        Check.write(x, "t 4 9");
        return x;
    }

    private static void changesNothing(String what, ToLongFunction<DawnTales> call) {
        DawnTales x = inTheMiddle();
        long first = call.applyAsLong(x);
        C.due(what + " once more", call.applyAsLong(x), first);
        C.same(what + " changes nothing", Check.everythingOf(x), Check.everythingOf(inTheMiddle()));
    }

    private static void nothingIsChanged() {
        C.sentence("Terms 3", "(Nothing is changed.)");
        changesNothing("on()", x -> x.on());
        changesNothing("by(12)", x -> x.by(12));
        changesNothing("by(312)", x -> x.by(312));
        changesNothing("longer()", x -> x.longer());
        for (int what = 0; what < 2; what++) {
            int w = what;
            changesNothing("best", x -> x.best(w));
            changesNothing("orders", x -> x.orders(w));
            changesNothing("odds", x -> x.odds(3, 2, w));
            for (int dawn = 0; dawn <= 30; dawn++) {
                int d = dawn;
                changesNothing("fewest", x -> x.fewest(d, w));
                changesNothing("mind", x -> x.mind(d, w));
                changesNothing("bars", x -> x.bars(d));
                changesNothing("surely", x -> x.surely(d));
            }
        }
    }

    private static void on() {
        C.sentence("Terms 3", "ON: if she TELLS on from NOW");
        DawnTales x = Check.told("n 3;m 9;t 9 9;t 9 9;");
        x.begins(0);
        C.due("8 parts, 2 hours left", x.on(), 2);
        x.tells();
        x.tells();
        C.due("6 parts, no hour left", x.on(), 2);
        x.dawn();
        C.due("6 parts, 3 hours left", x.on(), 1);
        x.begins(1);
        C.due("8 and 6 parts, 2 hours left", x.on(), 4);
        x.silent();
        C.due("8 and 6 parts, an hour left", x.on(), 5);
    }

    private static void onSilent() {
        C.sentence("Terms 3", "(SILENT, if none is OPEN)");
        DawnTales x = Check.told("n 3;t 2 9;t 9 9;");
        C.due("none open", x.on(), 0);
        x.begins(0);
        C.due("none open after an hour", x.on(), 0);
        x.tells();
        x.silent();
        C.due("none open, no hour left", x.on(), 0);
    }

    private static void onTillTheEnd() {
        C.sentence("Terms 3", "at how many DAWNS (30 at most) she is SAVED till she LIVES no more");
        DawnTales x = Check.told("n 1;m 9;t 9 9;t 8 9;");
        x.begins(0);
        x.dawn();
        x.begins(1);
        C.due("seven nights of the inner one, then eight of the outer one", x.on(), 15);
        DawnTales y = Check.told("n 1;m 9;t 9 9;t 9 9;");
        y.begins(0);
        y.dawn();
        y.begins(1);
        C.due("the outer one is forgotten in the ninth night", y.on(), 8);
        DawnTales z = Check.told("n 1;m 1;t 9 9;t 9 9;");
        z.begins(0);
        C.due("alone", z.on(), 8);
        z.dawn();
        z.begins(1);
        C.due("forgotten at once", z.on(), 0);
        z.dawn();
        C.due("she lives no more", z.on(), 0);
    }

    private static void byFigures() {
        C.sentence("Terms 3", "BY a row of TALES (figures, TALE and 1, the first the highest; none twice)");
        DawnTales x = Check.told("n 1;m 9;t 1 9;t 2 9;t 3 9;t 4 9;t 5 9;t 6 9;");
        for (int t = 0; t < 6; t++) {
            C.due("by(" + (t + 1) + ")", x.by(t + 1), t);
        }
        C.due("by(7)", x.by(7), Check.BAD);
        C.due("by(0), of no tale", x.by(0), 0);
        C.due("by(16): the first is told and no tale open at dawn", x.by(16), 0);
        C.due("by(61): five nights, then the first one's, then the last part", x.by(61), 6);
        for (int twice : new int[] {11, 66, 121, 112, 211, 123451, 654326}) {
            C.due("by(" + twice + ")", x.by(twice), Check.BAD);
        }
        for (int none : new int[] {10, 101, 120, 17, 71, 172, 8, 9, 91, 100000, 1234567, 1000000000, -1, -12}) {
            C.due("by(" + none + ")", x.by(none), Check.BAD);
        }
    }

    private static void byFromTheBeginning() {
        C.sentence("Terms 3", "from the beginning (nothing BEGUN, NIGHT 0)");
        DawnTales x = Check.told("n 1 2;t 5 9;t 2 9;");
        int[] rows = {0, 1, 2, 12, 21};
        int[] due = {0, 3, 1, 4, 3};
        for (int i = 0; i < rows.length; i++) {
            C.due("by(" + rows[i] + ")", x.by(rows[i]), due[i]);
        }
        x.begins(0);
        x.dawn();
        x.tells();
        x.begins(1);
        for (int i = 0; i < rows.length; i++) {
            C.due("by(" + rows[i] + ") in night 1", x.by(rows[i]), due[i]);
        }
        x.dawn();
        for (int night = 2; night < 5; night++) {
            while (x.now(1) > 0) {
                x.silent();
            }
            x.dawn();
        }
        C.due("lives", x.now(4), 0);
        for (int i = 0; i < rows.length; i++) {
            C.due("by(" + rows[i] + ") of one who lives no more", x.by(rows[i]), due[i]);
        }
    }

    /** By 12, or by 21, the second one is not open at the first dawn: two parts are left of the first then. */
    private static void byBeginsTheNext() {
        C.sentence("Terms 3", "she BEGINS the next one of the row, if none is OPEN or just one part is LEFT of the innermost");
        DawnTales two = Check.told("n 2;t 4 9;t 4 9;");
        two.heard(1, 1);
        C.due("two parts left: one is open", two.orders(0), 2);
        DawnTales one = Check.told("n 3;t 3 9;t 3 9;");
        one.heard(1, 2);
        C.due("one part left: two are open", one.orders(0), 2);
        DawnTales none = Check.told("n 3;d 1;t 2 9;t 2 9;");
        none.heard(1, 1);
        C.due("none open: the next one is", none.orders(0), 2);
        DawnTales oneEach = Check.told("n 3;t 1 9;t 1 9;t 2 9;");
        C.due("each at its end at once, but for the last", oneEach.by(123), 1);
        C.due("one, then the other within the third", oneEach.by(132), 1);
        C.due("the two, then silence", oneEach.by(12), 0);
    }

    private static void byMayNotBegin() {
        C.sentence("Terms 3", "and it may be begun; else she TELLS");
        DawnTales deep = Check.told("n 1;m 9;d 1;t 3 9;t 3 9;");
        C.due("too deep: the last part is told", deep.by(12), 2);
        DawnTales deeper = Check.told("n 1;m 9;d 2;t 3 9;t 3 9;");
        C.due("not too deep", deeper.by(12), 5);
        DawnTales within = Check.told("n 1;m 9;t 3 9;t 3 9;t 3 0;");
        C.due("not there", within.by(23), 2);
        C.due("there", within.by(13), 5);
        C.due("there again, as the second one is at its end", within.by(123), 8);
    }

    private static void bySilent() {
        C.sentence("Terms 3", "SILENT, if none is OPEN. At how many DAWNS (30 at most) she is SAVED then.");
        DawnTales x = Check.told("n 2;t 3 9;t 3 0;");
        C.due("never there", x.by(2), 0);
        C.due("no other goes ahead of it", x.by(21), 0);
        C.due("the row is told, one hour is left", Check.told("n 2;t 1 9;").by(1), 0);
    }

    private static void thirtyAtMost() {
        C.sentence("Terms 3", "At how many DAWNS (30 at most)");
        DawnTales x = Check.told(THIRTY);
        int[] rows = {1, 12, 123, 1234, 12345, 123456, 2, 21, 134562};
        int[] due = {0, 8, 16, 24, 30, 30, 7, 7, 30};
        for (int i = 0; i < rows.length; i++) {
            C.due("by(" + rows[i] + ")", x.by(rows[i]), due[i]);
        }
        C.due("best(0)", x.best(0), 30);
        C.due("best(1): 30 as well by five", x.best(1), 12345);
        C.due("fewest(30, 0)", x.fewest(30, 0), 5);
        C.due("fewest(30, 1)", x.fewest(30, 1), 12345);
        C.due("fewest(24, 1)", x.fewest(24, 1), 1234);
        C.due("fewest(25, 1)", x.fewest(25, 1), 12345);
        C.due("mind(30, 0)", x.mind(30, 0), 1);
        C.due("mind(30, 1)", x.mind(30, 1), 12345);
        C.due("bars(30)", x.bars(30), 0);
        C.due("bars(8)", x.bars(8), 0);
        C.due("bars(7)", x.bars(7), Check.NONE);
        C.due("heard(30, 1)", x.heard(30, 1), 1);
        C.due("orders(0)", x.orders(0), 120);
        C.due("orders(1)", x.orders(1), 123456);
        C.due("surely(30): one of them, now this, now that", x.surely(30), 0);
        C.due("heard(1, 2)", x.heard(1, 2), 2);
        C.due("orders(0), with two open", x.orders(0), 0);
        C.due("surely(30), with two open", x.surely(30), Check.NONE);
    }

    /** The last tale lasts seven nights only, so that by all orders in which she comes so far it is the last one told. */
    private static void thirtiethDawn() {
        C.sentence("Terms 3", "at the d-th DAWN (1 .. 30)");
        DawnTales x = Check.told("n 2 1 1 1 1 1 1 1;d 1;t 9 9;t 9 9;t 1 9;t 8 9;t 9 9;");
        C.due("best(0)", x.best(0), 30);
        C.due("heard(30, 1)", x.heard(30, 1), 1);
        C.due("orders(0)", x.orders(0), 6);
        C.due("orders(1)", x.orders(1), 31254);
        for (int d = 1; d <= 30; d++) {
            C.due("surely(" + d + ")", x.surely(d), d <= 24 ? 0 : 8);
        }
        x.heard(24, 1);
        x.heard(11, 1);
        x.heard(20, 1);
        C.due("orders(0) of more dawns", x.orders(0), 6);
        x.heard(21, 2);
        C.due("orders(0) of what can't be", x.orders(0), 0);
    }

    private static void bestOfNone() {
        C.sentence("Terms 3", "BEST: of all rows of some TALES (none, too)");
        C.due("no tales: dawns", new DawnTales().best(0), 0);
        C.due("no tales: row", new DawnTales().best(1), 0);
        C.due("none does more: row", Check.told("n 9;t 2 9;t 2 9;").best(1), 0);
        C.due("one does more: row", Check.told("n 1;t 2 9;").best(1), 1);
    }

    private static void bestOfFewest() {
        C.sentence("Terms 3", "the one by which it is at the most DAWNS; of these that of the fewest TALES");
        DawnTales x = Check.told("n 1;m 1;t 2 9;t 4 9;t 3 9;");
        C.due("dawns", x.best(0), 3);
        C.due("the second alone, though 1.. is first by figures", x.best(1), 2);
        DawnTales y = Check.told("n 1;m 9;t 2 9;t 4 9;");
        C.due("both: dawns", y.best(0), 5);
        C.due("both: row", y.best(1), 12);
    }

    private static void bestFirst() {
        C.sentence("Terms 3", "of these the first by figures (from the highest on): how many DAWNS, the row.");
        C.due("two alike", Check.told("n 1;m 1;t 3 9;t 3 9;").best(1), 1);
        C.due("six alike, five do", Check.told("n 1;m 9;t 2 9;t 2 9;t 2 9;t 2 9;t 2 9;t 2 9;").best(1), 12345);
        C.due("123 ahead of 132", Check.told("n 2;m 1;t 1 9;t 3 9;t 3 9;").best(1), 123);
        C.due("213 ahead of 231 and 312", Check.told("n 1;m 9;t 1 9;t 3 9;t 3 9;").best(1), 213);
    }

    private static void fewest() {
        C.sentence("Terms 3", "FEWEST for d (0 .. 30): the fewest TALES by a row of which she is SAVED at d DAWNS at least, of these the first row");
        DawnTales x = Check.told("n 1;m 9;t 2 9;t 2 9;t 4 9;");
        int[] many = {0, 1, 1, 1, 2, 2, 3};
        int[] rows = {0, 1, 3, 3, 13, 31, 0};
        for (int d = 0; d < 6; d++) {
            C.due("fewest(" + d + ", 0)", x.fewest(d, 0), many[d]);
        }
        C.due("at 0 none is needed", x.fewest(0, 1), rows[0]);
        C.due("at 1 the first does", x.fewest(1, 1), rows[1]);
        C.due("at 2 the third does", x.fewest(2, 1), rows[2]);
        C.due("at 3 the third does", x.fewest(3, 1), rows[3]);
        C.due("at 4 two do", x.fewest(4, 1), rows[4]);
        C.due("fewest(-1, 0)", x.fewest(-1, 0), Check.BAD);
        C.due("fewest(31, 0)", x.fewest(31, 0), Check.BAD);
    }

    private static void fewestNone() {
        C.sentence("Terms 3", "how many, the row; NONE.");
        DawnTales x = Check.told("n 1;m 1;t 4 9;");
        C.due("three: how many", x.fewest(3, 0), 1);
        C.due("four: how many", x.fewest(4, 0), Check.NONE);
        C.due("four: row", x.fewest(4, 1), Check.NONE);
        C.due("thirty: row", x.fewest(30, 1), Check.NONE);
        C.due("no tales, none is needed", new DawnTales().fewest(0, 0), 0);
        C.due("no tales, one dawn", new DawnTales().fewest(1, 0), Check.NONE);
    }

    /** By 12 two are open at the second dawn; by 234 the second one is alone at all three. */
    private static void mind() {
        C.sentence("Terms 3", "MIND for d (1 .. 30): of rows by which she is SAVED at d DAWNS at least the one by which the most that are OPEN at one of the first d DAWNS are fewest");
        DawnTales x = Check.told("n 1;m 3;t 2 9;t 2 9;t 1 1;t 1 9;");
        C.due("one open", x.mind(3, 0), 1);
        C.due("though two tales would do", x.fewest(3, 0), 2);
        C.due("by three", x.mind(3, 1), 234);
        C.due("then that of the fewest tales", x.mind(2, 1), 14);
        C.due("then the first", x.mind(1, 1), 1);
        C.due("mind(0, 0)", x.mind(0, 0), Check.BAD);
        C.due("mind(31, 0)", x.mind(31, 0), Check.BAD);
        DawnTales six = Check.told("n 1;m 9;t 2 9;t 2 9;t 2 9;t 2 9;t 2 9;t 2 9;");
        C.due("how many are saved", six.best(0), 9);
        for (int d = 1; d <= 6; d++) {
            C.due("mind(" + d + ", 0) of tales that are all needed", six.mind(d, 0), d < 2 ? 1 : d < 4 ? 2 : d < 6 ? 3 : 4);
        }
    }

    private static void mindNone() {
        C.sentence("Terms 3", "of these that of the fewest TALES, then the first: how many, the row; NONE.");
        DawnTales x = Check.told("n 1;m 1;t 4 9;t 4 9;");
        C.due("three", x.mind(3, 1), 1);
        C.due("four: how many", x.mind(4, 0), Check.NONE);
        C.due("four: row", x.mind(4, 1), Check.NONE);
        C.due("thirty", x.mind(30, 0), Check.NONE);
        C.due("no tales", new DawnTales().mind(1, 0), Check.NONE);
    }

    private static void bars() {
        C.sentence("Terms 3", "BARS for d: the first TALE without which (no row has it) she could not be SAVED at d DAWNS, though with it she can; NONE.");
        DawnTales x = Check.told("n 3;t 1 9;t 4 9;t 3 1;");
        C.due("one bars", x.bars(1), 1);
        C.due("the first of two that bar", x.bars(2), 1);
        C.due("nothing does: she can't with them, either", x.bars(3), Check.NONE);
        C.due("bars(30)", x.bars(30), Check.NONE);
        C.due("bars(0)", x.bars(0), Check.BAD);
        C.due("bars(31)", x.bars(31), Check.BAD);
        C.due("another does as well", Check.told("n 1;t 2 9;t 2 9;").bars(1), Check.NONE);
        C.due("the last one", Check.told("n 1;m 1;t 1 9;t 1 9;t 1 9;t 1 9;t 1 9;t 2 9;").bars(1), 5);
        C.due("no tales", new DawnTales().bars(1), Check.NONE);
    }

    private static void sixHeard() {
        C.sentence("Terms 3", "HEARD (6 at most)");
        DawnTales x = Check.told("n 3;t 4 9;t 2 9;");
        for (int i = 1; i <= 6; i++) {
            C.due("heard " + i, x.heard(1, 2), i);
        }
        C.due("orders of six", x.orders(1), 21);
        C.due("a seventh", x.heard(1, 1), Check.FULL);
        C.due("is not heard", x.orders(1), 21);
        C.due("how much there is", x.count(4), 6);
    }

    private static void heardNumbers() {
        C.sentence("Terms 3", "at the d-th DAWN (1 .. 30) so many (0 .. 6) were OPEN");
        for (int d = -1; d <= 32; d++) {
            for (int open = -1; open <= 8; open++) {
                DawnTales x = new DawnTales();
                boolean isGood = d >= 1 && d <= 30 && open >= 0 && open <= 6;
                C.due("heard(" + d + ", " + open + ")", x.heard(d, open), isGood ? 1 : Check.BAD);
                C.due("how much there is", x.count(4), isGood ? 1 : 0);
            }
        }
        DawnTales six = Check.told("n 6;m 9;t 2 9;t 2 9;t 2 9;t 2 9;t 2 9;t 2 9;");
        six.heard(1, 6);
        C.due("six open", six.orders(0), 720);
        six.forget();
        six.heard(1, 5);
        C.due("five open", six.orders(0), 0);
    }

    private static void ordersOfAll() {
        C.sentence("Terms 3", "ORDERS: rows of all TALES");
        int[] due = {1, 1, 2, 6, 24, 120, 720};
        int[] first = {0, 1, 12, 123, 1234, 12345, 123456};
        String text = "n 1;";
        for (int tales = 0; tales <= 6; tales++) {
            DawnTales x = Check.told(text);
            C.due("orders of " + tales, x.orders(0), due[tales]);
            C.due("first of " + tales, x.orders(1), first[tales]);
            text += "t 2 9;";
        }
    }

    private static void ordersSaved() {
        C.sentence("Terms 3", "by which she was SAVED so far (at all these DAWNS) and it was so: how many; the first one (0: none).");
        DawnTales x = Check.told("n 1;m 9;t 3 9;t 2 9;t 1 9;");
        x.heard(1, 1);
        C.due("3 ahead of none", x.orders(0), 4);
        x.heard(2, 1);
        C.due("by 123 and 132 the first is told on, by 231 the third is at its end at once", x.orders(0), 3);
        C.due("the first", x.orders(1), 123);
        x.heard(3, 2);
        C.due("123 and 231", x.orders(0), 2);
        C.due("the first of two", x.orders(1), 123);
        x.heard(2, 2);
        C.due("both can't be", x.orders(0), 0);
        C.due("the first of none", x.orders(1), 0);
    }

    private static void ordersNone() {
        C.sentence("Terms 3", "(0: none)");
        DawnTales x = Check.told("n 1;t 2 9;");
        x.heard(30, 1);
        C.due("how many", x.orders(0), 0);
        C.due("the first one", x.orders(1), 0);
        x.forget();
        x.heard(1, 0);
        C.due("none open: she was not saved", x.orders(0), 0);
        x.forget();
        C.due("nothing heard", x.orders(1), 1);
    }

    private static void surely() {
        C.sentence("Terms 3", "SURELY at the d-th DAWN: TALES (bits) that were OPEN by all ORDERS by which she is SAVED there");
        DawnTales x = Check.told("n 1;m 9;t 3 9;t 2 9;t 2 0;");
        C.due("at the first: now one, now the other", x.surely(1), 0);
        x.heard(2, 1);
        C.due("the first one alone", x.surely(1), 1);
        C.due("at the second, too", x.surely(2), 1);
        C.due("at the third: it and one more", x.surely(3), 1);
        DawnTales y = Check.told("n 1;m 9;t 1 9;t 1 9;t 1 9;t 1 9;t 1 9;t 9 9;");
        C.due("the sixth", y.surely(1), 32);
    }

    private static void surelyNone() {
        C.sentence("Terms 3", "NONE: there is no such order.");
        DawnTales x = Check.told("n 1;m 1;t 3 9;");
        C.due("at the second", x.surely(2), 1);
        C.due("at the third", x.surely(3), Check.NONE);
        C.due("at the thirtieth", x.surely(30), Check.NONE);
        x.heard(1, 2);
        C.due("nothing is as heard", x.surely(1), Check.NONE);
        C.due("surely(0)", x.surely(0), Check.BAD);
        C.due("surely(31)", x.surely(31), Check.BAD);
        C.due("no tales", new DawnTales().surely(1), Check.NONE);
    }

    private static void odds() {
        C.sentence("Terms 3", "ODDS (x 0 .. 10, n 0 .. 9): at each DAWN he guesses the end by x in 10: that he does not n times: a fraction.");
        DawnTales d = new DawnTales();
        for (int x = -1; x <= 11; x++) {
            for (int n = -1; n <= 10; n++) {
                boolean isGood = x >= 0 && x <= 10 && n >= 0 && n <= 9;
                long upper = d.odds(x, n, 0);
                long lower = d.odds(x, n, 1);
                if (isGood) {
                    long left = upper;
                    long right = lower;
                    for (int i = 0; i < n; i++) {
                        left *= 10;
                        right *= 10 - x;
                    }
                    // upper / lower = (10 - x)^n / 10^n; 10^9 by 10^9 has its place in a long.
                    C.due("odds(" + x + ", " + n + ")", left, right);
                } else {
                    C.due("odds(" + x + ", " + n + ", 0)", upper, Check.BAD);
                    C.due("odds(" + x + ", " + n + ", 1)", lower, Check.BAD);
                }
            }
        }
        C.due("never by 0 times", d.odds(10, 0, 0), 1);
        C.due("never by 0 times, lower", d.odds(10, 0, 1), 1);
    }

    private static void oddsInLeastTerms() {
        C.sentence("Promise 24", "upper (what = 0), lower number (1), in least terms");
        DawnTales d = new DawnTales();
        for (int x = 0; x <= 10; x++) {
            for (int n = 0; n <= 9; n++) {
                long a = d.odds(x, n, 0);
                long b = d.odds(x, n, 1);
                C.due("above 0", b > 0 ? 1 : 0, 1);
                while (b != 0) {
                    long rest = a % b;
                    a = b;
                    b = rest;
                }
                C.due("common divisor of odds(" + x + ", " + n + ")", a, 1);
            }
        }
        C.due("1 of 10 hits it always: upper", d.odds(10, 9, 0), 0);
        C.due("1 of 10 hits it always: lower", d.odds(10, 9, 1), 1);
        C.due("the largest lower number", d.odds(9, 9, 1), 1000000000L);
    }

    private static void longer() {
        C.sentence("Terms 3", "LONGER: how many more DAWNS BEST would have, if each NIGHT were an hour longer");
        C.due("each of five hours", Check.told("d 1;t 5 9;t 5 9;").longer(), 1);
        C.due("each of nine hours", Check.told("n 9;d 1;t 9 9;t 9 9;").longer(), 1);
        C.due("each of those that come round", Check.told("n 2 1;m 1;d 1;t 3 9;").longer(), -1);
        C.due("no tales", new DawnTales().longer(), 0);
        DawnTales x = Check.told("n 9;d 1;t 9 9;t 9 9;");
        C.due("best(0) is as it is", x.best(0), 0);
        C.due("longer()", x.longer(), 1);
        C.due("best(0) is as it was", x.best(0), 0);
        C.due("hours(0)", x.hours(0), 9);
    }

    /** Five tales of two parts take ten hours: in nine the last one is not at its end, in ten all are, by whichever row. */
    private static void longerByATenthHour() {
        C.sentence("Terms 3", "if each NIGHT were an hour longer");
        DawnTales x = Check.told("n 9;t 2 9;t 2 9;t 2 9;t 2 9;t 2 9;");
        C.due("best(1)", x.best(1), 12345);
        C.due("in ten hours all are told", x.longer(), -1);
        C.due("six take twelve", Check.told("n 9;t 2 9;t 2 9;t 2 9;t 2 9;t 2 9;t 2 9;").longer(), 0);
    }

    private static void longerBelow0() {
        C.sentence("Terms 3", "(below 0: fewer)");
        C.due("eight, then four", Check.told("n 1;t 9 9;").longer(), -4);
        C.due("one, then none", Check.told("n 1;t 2 9;").longer(), -1);
    }
}
