/** Promises 20 to 24: heard, forget, orders, surely, odds. */
public final class HeardTest {
    private static final Check C = new Check("HeardTest");

    public static void main(String[] args) {
        heard();
        forget();
        orders();
        surely();
        odds();
        C.finish();
    }

    private static void heard() {
        C.sentence("Promise 20", "HEARD: how much there is. BAD; FULL.");
        DawnTales x = new DawnTales();
        C.due("heard(0, 0)", x.heard(0, 0), Check.BAD);
        C.due("heard(31, 0)", x.heard(31, 0), Check.BAD);
        C.due("heard(1, -1)", x.heard(1, -1), Check.BAD);
        C.due("heard(1, 7)", x.heard(1, 7), Check.BAD);
        C.due("nothing heard", x.count(4), 0);
        int[] days = {1, 30, 5, 5, 1, 2};
        int[] open = {0, 6, 1, 2, 0, 3};
        for (int i = 0; i < 6; i++) {
            C.due("heard " + i, x.heard(days[i], open[i]), i + 1);
        }
        C.due("a seventh", x.heard(1, 1), Check.FULL);
        C.due("BAD ahead of FULL", x.heard(1, 7), Check.BAD);
        C.due("six still", x.count(4), 6);
    }

    private static void forget() {
        C.sentence("Promise 21", "Nothing was HEARD: how much there was.");
        DawnTales x = Check.told("n 3;t 4 9;t 2 9;");
        C.due("forget() of nothing", x.forget(), 0);
        for (int i = 0; i < 6; i++) {
            x.heard(2, 1);
        }
        C.due("orders() of what can't be", x.orders(0), 0);
        C.due("forget()", x.forget(), 6);
        C.due("how much there is", x.count(4), 0);
        C.due("orders() of nothing heard", x.orders(0), 2);
        C.due("forget() again", x.forget(), 0);
        C.due("heard after it", x.heard(1, 2), 1);
        C.due("orders() of what was heard since", x.orders(1), 21);
    }

    /** By 12 the first one is open at the first dawn, with a part left; by 21 both are. */
    private static void orders() {
        C.sentence("Promise 22", "ORDERS: how many (what = 0), the first one (1; 0). BAD.");
        DawnTales x = Check.told("n 3;t 4 9;t 2 9;");
        C.due("orders(0)", x.orders(0), 2);
        C.due("orders(1)", x.orders(1), 12);
        x.heard(1, 2);
        C.due("two open: by 21", x.orders(0), 1);
        C.due("two open: 21", x.orders(1), 21);
        x.forget();
        x.heard(1, 1);
        C.due("one open: by 12", x.orders(0), 1);
        C.due("one open: 12", x.orders(1), 12);
        x.heard(1, 1);
        C.due("the same again", x.orders(0), 1);
        x.heard(2, 1);
        C.due("not saved at the second", x.orders(0), 0);
        C.due("none is 0", x.orders(1), 0);
        C.due("orders(2)", x.orders(2), Check.BAD);
        C.due("orders(-1)", x.orders(-1), Check.BAD);
        x.forget();
        x.heard(1, 0);
        C.due("none open: not saved", x.orders(0), 0);
        DawnTales none = new DawnTales();
        C.due("orders(0) of no tales", none.orders(0), 1);
        C.due("orders(1) of no tales", none.orders(1), 0);
        none.heard(1, 0);
        C.due("of no tales, not saved", none.orders(0), 0);
    }

    private static void surely() {
        C.sentence("Promise 23", "SURELY, as bits; NONE. BAD.");
        DawnTales x = Check.told("n 3;t 4 9;t 2 9;");
        C.due("surely(1)", x.surely(1), 1);
        C.due("surely(2)", x.surely(2), Check.NONE);
        C.due("surely(30)", x.surely(30), Check.NONE);
        x.heard(1, 2);
        C.due("surely(1), two open", x.surely(1), 3);
        x.heard(1, 1);
        C.due("surely(1), what can't be", x.surely(1), Check.NONE);
        C.due("surely(0)", x.surely(0), Check.BAD);
        C.due("surely(31)", x.surely(31), Check.BAD);
        DawnTales y = Check.told("n 1;t 3 9;t 3 9;");
        C.due("now one, now the other", y.surely(1), 0);
        lateDawns();
    }

    /** By 12 the second one is begun in the ninth night; the first one is forgotten at the seventeenth dawn. */
    private static void lateDawns() {
        DawnTales x = Check.told("n 1;m 9;t 9 9;t 9 0;");
        for (int d = 1; d <= 30; d++) {
            C.due("surely(" + d + ")", x.surely(d), d <= 8 ? 1 : d <= 16 ? 3 : Check.NONE);
        }
        C.due("orders(0): 12, and 21 by which she is never saved", x.orders(0), 2);
        x.heard(8, 1);
        x.heard(9, 2);
        x.heard(11, 2);
        x.heard(16, 2);
        C.due("orders(0) of late dawns", x.orders(0), 1);
        C.due("orders(1) of late dawns", x.orders(1), 12);
        x.heard(17, 2);
        C.due("orders(0) of one at which she is not saved", x.orders(0), 0);
    }

    private static void odds() {
        C.sentence("Promise 24", "ODDS: upper (what = 0), lower number (1), in least terms. BAD.");
        DawnTales x = new DawnTales();
        odds(x, 0, 0, 1, 1);
        odds(x, 0, 9, 1, 1);
        odds(x, 10, 0, 1, 1);
        odds(x, 10, 1, 0, 1);
        odds(x, 10, 9, 0, 1);
        odds(x, 5, 3, 1, 8);
        odds(x, 4, 2, 9, 25);
        odds(x, 1, 9, 387420489L, 1000000000L);
        odds(x, 9, 9, 1, 1000000000L);
        odds(x, 2, 1, 4, 5);
        odds(x, 8, 9, 1, 1953125);
        C.due("odds(-1, 0, 0)", x.odds(-1, 0, 0), Check.BAD);
        C.due("odds(11, 0, 0)", x.odds(11, 0, 0), Check.BAD);
        C.due("odds(0, -1, 0)", x.odds(0, -1, 0), Check.BAD);
        C.due("odds(0, 10, 0)", x.odds(0, 10, 0), Check.BAD);
        C.due("odds(0, 0, -1)", x.odds(0, 0, -1), Check.BAD);
        C.due("odds(0, 0, 2)", x.odds(0, 0, 2), Check.BAD);
    }

    private static void odds(DawnTales x, int guess, int n, long upper, long lower) {
        C.due("odds(" + guess + ", " + n + ", 0)", x.odds(guess, n, 0), upper);
        C.due("odds(" + guess + ", " + n + ", 1)", x.odds(guess, n, 1), lower);
    }
}
