import java.util.ArrayList;
import java.util.LinkedHashMap;
import java.util.List;
import java.util.Map;
import java.util.function.Function;
import java.util.function.Supplier;
import java.util.function.ToLongFunction;

/**
 * Each call, with all the numbers that may be told to it and those beside them, in each of some states: it is refused
 * exactly when the document says so, by BAD ahead of STATE ahead of FULL, and what is refused, or only asks, changes
 * nothing: an object that was asked more answers all later calls as one that was not.
 */
public final class RefusedTest {
    private static final Check C = new Check("RefusedTest");
    private static final int[] EDGES = {Integer.MIN_VALUE, -1000000, -256, -10, -9, -2, -1, Integer.MAX_VALUE, 1 << 16, 1000};
    private static final Map<String, Supplier<DawnTales>> STATES = new LinkedHashMap<>();

    /** A call with its numbers, and what refuses it in a state that may be asked about all but it. */
    private static final class Call {
        final String name;
        final ToLongFunction<DawnTales> ask;
        final Function<DawnTales, Integer> refusal;

        Call(String name, ToLongFunction<DawnTales> ask, Function<DawnTales, Integer> refusal) {
            this.name = name;
            this.ask = ask;
            this.refusal = refusal;
        }
    }

    public static void main(String[] args) {
        states();
        C.sentence("Promise 2", "A byte (0 .. 255) comes to THE TEXT: how many it has. BAD; FULL.");
        each(0, 258, c -> new Call("type(" + c + ")", x -> x.type(c),
            x -> c < 0 || c > 255 ? Check.BAD : x.count(6) == 150 ? Check.FULL : 0), false);
        C.sentence("Promise 5", "(NONE). BAD.");
        eachOfTwo(0, 7, 0, 7, (t, w) -> new Call("tale(" + t + ", " + w + ")", x -> x.tale(t, w),
            x -> t < 0 || t >= x.count(0) || w < 0 || w > 5 ? Check.BAD : 0), true);
        C.sentence("Promise 6", "HOURS of a NIGHT (0 .. 200). BAD.");
        each(0, 203, n -> new Call("hours(" + n + ")", x -> x.hours(n), x -> n < 0 || n > 200 ? Check.BAD : 0), true);
        telling();
        coming();
        hearing();
        others();
        C.finish();
    }

    private static void telling() {
        C.sentence("Promise 7", "BAD; STATE: she LIVES no more, no HOURS, it is BEGUN, too deep, not there.");
        each(0, 10, t -> new Call("begins(" + t + ")", x -> x.begins(t), x -> refusalOfBegins(x, t)), false);
        C.sentence("Promise 8", "STATE: she LIVES no more, no HOURS, none is OPEN.");
        one(new Call("tells()", x -> x.tells(), x -> x.now(4) == 0 || x.now(1) == 0 || x.now(2) == 0 ? Check.STATE : 0), false);
        C.sentence("Promise 9", "STATE: she LIVES no more, no HOURS.");
        one(new Call("silent()", x -> x.silent(), x -> x.now(4) == 0 || x.now(1) == 0 ? Check.STATE : 0), false);
        C.sentence("Promise 10", "STATE: she LIVES no more, HOURS are LEFT, it is NIGHT 99.");
        one(new Call("dawn()", x -> x.dawn(), x -> x.now(4) == 0 || x.now(1) > 0 || x.now(0) == 99 ? Check.STATE : 0), false);
        C.sentence("Promise 11", "UNDONE: how many more may be. STATE: none.");
        one(new Call("undo()", x -> x.undo(), x -> x.count(5) == 0 ? Check.STATE : 0), false);
        C.sentence("Promise 12", "TALES that may be begun now (bits). BAD.");
        each(0, 10, w -> new Call("now(" + w + ")", x -> x.now(w), x -> w < 0 || w > 7 ? Check.BAD : 0), true);
    }

    private static int refusalOfBegins(DawnTales x, int t) {
        if (t < 0 || t >= x.count(0)) {
            return Check.BAD;
        }
        boolean isThere = x.tale(t, 1) == 9 || x.tale(t, 1) == x.now(3);
        boolean isNone = x.now(4) == 0 || x.now(1) == 0 || x.tale(t, 3) == 1 || x.now(2) >= x.count(3) || !isThere;
        return isNone ? Check.STATE : 0;
    }

    private static void coming() {
        C.sentence("Promise 13", "ON.");
        one(new Call("on()", x -> x.on(), x -> 0), true);
        C.sentence("Promise 14", "BY a row. BAD (a figure of none, one twice).");
        each(0, 1300, row -> new Call("by(" + row + ")", x -> x.by(row), x -> isRow(row, x.count(0)) ? 0 : Check.BAD), true);
        for (int row : new int[] {1234, 4321, 12345, 54321, 123456, 654321, 123451, 1234567, 111111, 102, 1000001, 123460}) {
            one(new Call("by(" + row + ")", x -> x.by(row), x -> isRow(row, x.count(0)) ? 0 : Check.BAD), true);
        }
        C.sentence("Promise 15", "DAWNS (what = 0), the row (1). BAD.");
        each(0, 4, w -> new Call("best(" + w + ")", x -> x.best(w), x -> isPart(w) ? 0 : Check.BAD), true);
        C.sentence("Promise 16", "how many (what = 0), the row (1); NONE. BAD.");
        eachOfTwo(0, 34, 0, 3, (d, w) -> new Call("fewest(" + d + ", " + w + ")", x -> x.fewest(d, w),
            x -> d >= 0 && d <= 30 && isPart(w) ? 0 : Check.BAD), true);
        C.sentence("Promise 17", "how many (what = 0), the row (1); NONE. BAD.");
        eachOfTwo(0, 34, 0, 3, (d, w) -> new Call("mind(" + d + ", " + w + ")", x -> x.mind(d, w),
            x -> d >= 1 && d <= 30 && isPart(w) ? 0 : Check.BAD), true);
        C.sentence("Promise 18", "BARS; NONE. BAD (d 1 .. 30).");
        each(0, 34, d -> new Call("bars(" + d + ")", x -> x.bars(d), x -> d >= 1 && d <= 30 ? 0 : Check.BAD), true);
        C.sentence("Promise 19", "LONGER.");
        one(new Call("longer()", x -> x.longer(), x -> Integer.MIN_VALUE), true);
    }

    private static void hearing() {
        C.sentence("Promise 20", "HEARD: how much there is. BAD; FULL.");
        eachOfTwo(0, 33, 0, 9, (d, open) -> new Call("heard(" + d + ", " + open + ")", x -> x.heard(d, open),
            x -> d < 1 || d > 30 || open < 0 || open > 6 ? Check.BAD : x.count(4) == 6 ? Check.FULL : 0), false);
        C.sentence("Promise 22", "how many (what = 0), the first one (1; 0). BAD.");
        each(0, 4, w -> new Call("orders(" + w + ")", x -> x.orders(w), x -> isPart(w) ? 0 : Check.BAD), true);
        C.sentence("Promise 23", "SURELY, as bits; NONE. BAD.");
        each(0, 34, d -> new Call("surely(" + d + ")", x -> x.surely(d), x -> d >= 1 && d <= 30 ? 0 : Check.BAD), true);
        C.sentence("Promise 24", "upper (what = 0), lower number (1), in least terms. BAD.");
        for (int what : new int[] {-1, 0, 1, 2, 100}) {
            eachOfTwo(0, 13, 0, 12, (c, n) -> new Call("odds(" + c + ", " + n + ", " + what + ")", x -> x.odds(c, n, what),
                x -> c >= 0 && c <= 10 && n >= 0 && n <= 9 && isPart(what) ? 0 : Check.BAD), true);
        }
    }

    private static void others() {
        C.sentence("Promise 25", "MARK. NO: BAD.");
        eachOfTwo(0, 8, 0, 8, (k, t) -> new Call("mark(" + k + ", " + t + ")", x -> x.mark(k, t),
            x -> k < 0 || k > 5 || t < 0 || t >= x.count(0) ? DawnTales.NO : Integer.MIN_VALUE), false);
        C.sentence("Promise 26", "An IMAGE is kept: the NIGHT. BAD.");
        each(0, 4, i -> new Call("keep(" + i + ")", x -> x.keep(i), x -> i == 0 || i == 1 ? 0 : Check.BAD), false);
        C.sentence("Promise 27", "BAD; STATE: none was kept.");
        each(0, 4, i -> new Call("back(" + i + ")", x -> x.back(i), x -> i != 0 && i != 1 ? Check.BAD : -i - 100), false);
        C.sentence("Promise 28", "6 bytes of THE TEXT. BAD.");
        each(0, 10, w -> new Call("count(" + w + ")", x -> x.count(w), x -> w < 0 || w > 6 ? Check.BAD : 0), true);
        C.sentence("Promise 29", "THE TRACE.");
        one(new Call("trace()", x -> x.trace(), x -> 0), true);
    }

    private static boolean isPart(int what) {
        return what == 0 || what == 1;
    }

    private static boolean isRow(int row, int tales) {
        String figures = row == 0 ? "" : "" + row;
        if (row < 0 || figures.chars().distinct().count() < figures.length()) {
            return false;
        }
        return figures.chars().allMatch(f -> f >= '1' && f < '1' + tales);
    }

    // ---- the states

    private static void states() {
        STATES.put("new", DawnTales::new);
        STATES.put("in the middle", RefusedTest::middle);
        STATES.put("too deep", RefusedTest::deep);
        STATES.put("no hour left", RefusedTest::noHour);
        STATES.put("none open any more", RefusedTest::allTold);
        STATES.put("lives no more", RefusedTest::dead);
        STATES.put("all is full", RefusedTest::full);
        STATES.put("night 99", () -> Long99.night99());
        STATES.put("night 99, no hour left", RefusedTest::lastHour);
    }

    private static DawnTales middle() {
        DawnTales x = Check.told("n 4 5;m 2;t 4 9;t 3 0;t 2 1;t 1 9;t 9 9;t 5 0;");
        x.begins(4);
        x.begins(0);
        x.keep(0);
        x.tells();
        x.begins(3);
        x.dawn();
        x.begins(1);
        x.heard(1, 2);
        x.mark(3, 1);
        Check.write(x, "m 3;t");
        return x;
    }

    private static DawnTales deep() {
        DawnTales x = Check.told("n 4;d 2;t 4 9;t 3 0;t 2 1;t 1 9;");
        x.begins(0);
        x.begins(1);
        x.keep(1);
        return x;
    }

    private static DawnTales noHour() {
        DawnTales x = Check.told("n 2;t 4 9;t 3 0;t 2 9;");
        x.keep(1);
        x.begins(0);
        x.silent();
        return x;
    }

    private static DawnTales allTold() {
        DawnTales x = Check.told("n 4;t 1 9;t 2 9;");
        x.begins(0);
        x.begins(1);
        x.tells();
        return x;
    }

    private static DawnTales dead() {
        DawnTales x = Check.told("n 2;m 1;t 4 9;t 3 0;");
        x.begins(0);
        x.tells();
        x.keep(0);
        x.dawn();
        x.silent();
        x.silent();
        x.dawn();
        return x;
    }

    private static DawnTales full() {
        DawnTales x = Check.told("n 9;t 4 9;t 9 9;");
        for (int i = 0; i < 6; i++) {
            x.heard(1, 1 + i % 2);
        }
        x.keep(0);
        x.begins(1);
        for (int i = 0; i < 8; i++) {
            x.tells();
            x.undo();
            x.silent();
        }
        x.dawn();
        x.begins(0);
        x.tells();
        x.keep(1);
        Check.write(x, "t 5 9;" + " ".repeat(144));
        return x;
    }

    private static DawnTales lastHour() {
        DawnTales x = Long99.night99();
        x.tells();
        return x;
    }

    // ---- asking

    private static void each(int from, int to, Function<Integer, Call> call, boolean onlyAsks) {
        for (int n = from; n < to; n++) {
            one(call.apply(n), onlyAsks);
        }
        for (int n : EDGES) {
            one(call.apply(n), onlyAsks);
        }
    }

    private interface OfTwo {
        Call with(int a, int b);
    }

    private static void eachOfTwo(int from, int to, int from2, int to2, OfTwo call, boolean onlyAsks) {
        List<Integer> first = numbers(from, to);
        List<Integer> second = numbers(from2, to2);
        for (int a : first) {
            for (int b : second) {
                one(call.with(a, b), onlyAsks);
            }
        }
    }

    private static List<Integer> numbers(int from, int to) {
        List<Integer> all = new ArrayList<>(List.of(Integer.MIN_VALUE, -256, -1, Integer.MAX_VALUE));
        for (int n = from; n < to; n++) {
            all.add(n);
        }
        return all;
    }

    private static void one(Call call, boolean onlyAsks) {
        for (Map.Entry<String, Supplier<DawnTales>> state : STATES.entrySet()) {
            DawnTales asked = state.getValue().get();
            DawnTales other = state.getValue().get();
            int refusal = call.refusal.apply(other);
            if (refusal <= -100 && refusal >= -101) {
                refusal = isKept(state.getKey(), -100 - refusal) ? 0 : Check.STATE;
            }
            long got = call.ask.applyAsLong(asked);
            String what = call.name + " in state '" + state.getKey() + "'";
            boolean isRefused = refusal < 0 && refusal != Integer.MIN_VALUE;
            if (isRefused) {
                C.due(what, got, refusal);
            } else if (refusal == 0) {
                C.due(what + " is not refused", got < 0 && got != Check.NONE ? 1 : 0, 0);
            }
            if (isRefused || onlyAsks) {
                C.same(what + " changes nothing", Check.everythingOf(asked), Check.everythingOf(other));
            }
        }
    }

    private static boolean isKept(String state, int image) {
        switch (state) {
            case "in the middle":
            case "lives no more":
                return image == 0;
            case "too deep":
            case "no hour left":
                return image == 1;
            case "all is full":
                return true;
            default:
                return false;
        }
    }
}
