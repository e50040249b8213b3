import java.util.ArrayDeque;
import java.util.ArrayList;
import java.util.Arrays;
import java.util.LinkedHashMap;
import java.util.List;
import java.util.Map;
import java.util.TreeMap;

/** The document once more, written another way: lists and maps, nothing kept that can be worked out anew. */
final class Model {
    static final int BAD = -1, STATE = -2, FULL = -3, NONE = -9, NO = -1000000;

    /** What a text tells. */
    static final class Told {
        final List<int[]> tales = new ArrayList<>();
        List<Integer> nights = new ArrayList<>(List.of(5));
        int memory = 3;
        int depth = 6;
        int items;
    }

    /** One moment of the telling. */
    static final class Moment {
        int night;
        int hours;
        int saved;
        boolean dead;
        List<Integer> open = new ArrayList<>();
        Map<Integer, Integer> partsTold = new TreeMap<>();
        Map<Integer, Integer> toldIn = new TreeMap<>();

        Moment copy() {
            Moment m = new Moment();
            m.night = night;
            m.hours = hours;
            m.saved = saved;
            m.dead = dead;
            m.open = new ArrayList<>(open);
            m.partsTold = new TreeMap<>(partsTold);
            m.toldIn = new TreeMap<>(toldIn);
            return m;
        }
    }

    /** What comes by a row: what was open at each dawn at which she was saved. */
    static final class Run {
        final String row;
        final List<List<Integer>> dawns = new ArrayList<>();

        Run(String row) {
            this.row = row;
        }

        int figures() {
            return row.isEmpty() ? 0 : Integer.parseInt(row);
        }

        int mostOpen(int d) {
            int most = 0;
            for (List<Integer> open : dawns.subList(0, d)) {
                most = Math.max(most, open.size());
            }
            return most;
        }
    }

    private String text = "";
    private Told told = new Told();
    private Moment now = new Moment();
    private ArrayDeque<Moment> past = new ArrayDeque<>();
    private Moment[] imageNow = new Moment[2];
    private List<ArrayDeque<Moment>> imagePast = new ArrayList<>(Arrays.asList(null, null));
    private List<int[]> heard = new ArrayList<>();
    private long trace;
    private Map<String, Run> runs;

    Model() {
        now.hours = 5;
    }

    // ---- the tales

    int type(int c) {
        if (c < 0 || c > 255) {
            return BAD;
        }
        if (text.length() == 150) {
            return FULL;
        }
        text += (char) c;
        return text.length();
    }

    int clear() {
        int n = text.length();
        text = "";
        return n;
    }

    int tales() {
        Told t = new Told();
        int fault = read(text, t);
        if (fault >= 0) {
            return -10 - fault;
        }
        told = t;
        text = "";
        now = new Moment();
        now.hours = hours(0);
        past.clear();
        heard.clear();
        imageNow = new Moment[2];
        runs = null;
        return t.items;
    }

    /** The fault's place; -1, if there is none. A pass over the bytes, with what is expected as a text. */
    static int read(String s, Told t) {
        String expected = "item";
        List<Integer> nights = new ArrayList<>();
        String once = "";
        int parts = 0;
        int i = 0;
        while (i < s.length()) {
            if (s.charAt(i) == ' ') {
                i++;
                continue;
            }
            String token = tokenAt(s, i);
            int number = token.matches("0|[1-9][0-9]?") ? Integer.parseInt(token) : -1;
            switch (expected) {
                case "item":
                    if (!token.matches("[tnmd]") || once.contains(token) || token.equals("t") && t.tales.size() == 6) {
                        return i;
                    }
                    once += token.equals("t") ? "" : token;
                    expected = token.equals("t") ? "parts" : token.equals("n") ? "first" : token;
                    break;
                case "parts":
                    if (number < 1 || number > 9) {
                        return i;
                    }
                    parts = number;
                    expected = "within";
                    break;
                case "within":
                    if (number != 9 && (number < 0 || number >= t.tales.size())) {
                        return i;
                    }
                    t.tales.add(new int[] {parts, number});
                    expected = ";";
                    break;
                case "first":
                case "more":
                    if (expected.equals("more") && token.equals(";")) {
                        t.nights = nights;
                        t.items++;
                        expected = "item";
                        break;
                    }
                    if (number < 1 || number > 9 || nights.size() == 8) {
                        return i;
                    }
                    nights.add(number);
                    expected = "more";
                    break;
                case "m":
                    if (number < 1 || number > 9) {
                        return i;
                    }
                    t.memory = number;
                    expected = ";";
                    break;
                case "d":
                    if (number < 1 || number > 6) {
                        return i;
                    }
                    t.depth = number;
                    expected = ";";
                    break;
                default:
                    if (!token.equals(";")) {
                        return i;
                    }
                    t.items++;
                    expected = "item";
            }
            i += token.length();
        }
        return expected.equals("item") ? -1 : s.length();
    }

    private static String tokenAt(String s, int from) {
        java.util.regex.Matcher m = java.util.regex.Pattern.compile("[a-z]+|[0-9]+|.", java.util.regex.Pattern.DOTALL).matcher(s);
        return m.find(from) ? m.group() : "";
    }

    private boolean noTale(int t) {
        return t < 0 || t >= told.tales.size();
    }

    int tale(int t, int what) {
        if (noTale(t) || what < 0 || what > 5) {
            return BAD;
        }
        int[] answers = {
            told.tales.get(t)[0], told.tales.get(t)[1], left(now, t), now.partsTold.containsKey(t) ? 1 : 0,
            now.open.contains(t) ? now.open.indexOf(t) : NONE, now.toldIn.getOrDefault(t, NONE)
        };
        return answers[what];
    }

    private int left(Moment m, int t) {
        return told.tales.get(t)[0] - m.partsTold.getOrDefault(t, 0);
    }

    int hours(int night) {
        return night < 0 || night > 200 ? BAD : told.nights.get(night % told.nights.size());
    }

    // ---- telling

    private boolean mayBegin(Moment m, int t) {
        int within = told.tales.get(t)[1];
        boolean there = within == 9 || !m.open.isEmpty() && m.open.get(m.open.size() - 1) == within;
        return !m.dead && m.hours > 0 && !m.partsTold.containsKey(t) && m.open.size() < told.depth && there;
    }

    private void part(Moment m) {
        Integer t = m.open.get(m.open.size() - 1);
        m.partsTold.merge(t, 1, Integer::sum);
        m.toldIn.put(t, m.night);
        m.hours--;
        if (left(m, t) == 0) {
            m.open.remove(m.open.size() - 1);
        }
    }

    private boolean light(Moment m, int longer) {
        boolean forgotten = false;
        for (int t : m.open) {
            // Told in none of the last MEMORY nights, this one among them.
            forgotten |= m.toldIn.get(t) <= m.night - told.memory;
        }
        if (m.open.isEmpty() || forgotten) {
            m.dead = true;
            return false;
        }
        m.saved++;
        m.night++;
        m.hours = hours(m.night) + longer;
        return true;
    }

    private void remember() {
        past.addLast(now.copy());
        if (past.size() > 10) {
            past.removeFirst();
        }
    }

    int begins(int t) {
        if (noTale(t)) {
            return BAD;
        }
        if (!mayBegin(now, t)) {
            return STATE;
        }
        remember();
        now.open.add(t);
        part(now);
        return now.hours;
    }

    int tells() {
        if (now.dead || now.hours == 0 || now.open.isEmpty()) {
            return STATE;
        }
        remember();
        part(now);
        return now.hours;
    }

    int silent() {
        if (now.dead || now.hours == 0) {
            return STATE;
        }
        remember();
        now.hours--;
        return now.hours;
    }

    int dawn() {
        if (now.dead || now.hours > 0 || now.night == 99) {
            return STATE;
        }
        remember();
        return light(now, 0) ? 1 : 0;
    }

    int undo() {
        if (past.isEmpty()) {
            return STATE;
        }
        now = past.removeLast();
        return past.size();
    }

    int now(int what) {
        int ended = 0;
        int begin = 0;
        for (int t = 0; t < told.tales.size(); t++) {
            ended += left(now, t) == 0 ? 1 << t : 0;
            begin += mayBegin(now, t) ? 1 << t : 0;
        }
        int inner = now.open.isEmpty() ? NONE : now.open.get(now.open.size() - 1);
        int[] answers = {now.night, now.hours, now.open.size(), inner, now.dead ? 0 : 1, now.saved, ended, begin};
        return what < 0 || what > 7 ? BAD : answers[what];
    }

    // ---- what comes

    int on() {
        Moment m = now.copy();
        int dawns = 0;
        while (dawns < 30 && !m.dead) {
            while (m.hours > 0) {
                if (m.open.isEmpty()) {
                    m.hours--;
                } else {
                    part(m);
                }
            }
            if (m.night == 99 || !light(m, 0)) {
                break;
            }
            dawns++;
        }
        return dawns;
    }

    private Run run(String row, int longer) {
        Run r = new Run(row);
        Moment m = new Moment();
        m.hours = hours(0) + longer;
        String rest = row;
        while (r.dawns.size() < 30) {
            while (m.hours > 0) {
                boolean pause = m.open.isEmpty() || left(m, m.open.get(m.open.size() - 1)) == 1;
                int t = rest.isEmpty() ? -1 : rest.charAt(0) - '1';
                if (t >= 0 && pause && mayBegin(m, t)) {
                    m.open.add(t);
                    rest = rest.substring(1);
                    part(m);
                } else if (m.open.isEmpty()) {
                    m.hours--;
                } else {
                    part(m);
                }
            }
            List<Integer> open = new ArrayList<>(m.open);
            if (!light(m, longer)) {
                break;
            }
            r.dawns.add(open);
        }
        return r;
    }

    int by(int row) {
        String s = row == 0 ? "" : "" + row;
        if (row < 0 || s.chars().distinct().count() != s.length()) {
            return BAD;
        }
        for (char c : s.toCharArray()) {
            if (c == '0' || noTale(c - '1')) {
                return BAD;
            }
        }
        return run(s, 0).dawns.size();
    }

    private void addRows(String row, int longer, Map<String, Run> to) {
        to.put(row, run(row, longer));
        for (int t = 0; t < told.tales.size(); t++) {
            if (row.indexOf('1' + t) < 0) {
                addRows(row + (t + 1), longer, to);
            }
        }
    }

    private Map<String, Run> runs() {
        if (runs == null) {
            runs = new LinkedHashMap<>();
            addRows("", 0, runs);
        }
        return runs;
    }

    /** Whether a goes ahead of b: fewer tales, or as many and first by figures. */
    private static boolean ahead(Run a, Run b) {
        return b == null || a.row.length() < b.row.length() || a.row.length() == b.row.length() && a.row.compareTo(b.row) < 0;
    }

    int best(int what) {
        if (what != 0 && what != 1) {
            return BAD;
        }
        Run best = null;
        for (Run r : runs().values()) {
            int more = best == null ? 1 : r.dawns.size() - best.dawns.size();
            if (more > 0 || more == 0 && ahead(r, best)) {
                best = r;
            }
        }
        return what == 0 ? best.dawns.size() : best.figures();
    }

    int fewest(int d, int what) {
        if (d < 0 || d > 30 || what != 0 && what != 1) {
            return BAD;
        }
        Run best = null;
        for (Run r : runs().values()) {
            if (r.dawns.size() >= d && ahead(r, best)) {
                best = r;
            }
        }
        return best == null ? NONE : what == 0 ? best.row.length() : best.figures();
    }

    int mind(int d, int what) {
        if (d < 1 || d > 30 || what != 0 && what != 1) {
            return BAD;
        }
        Run best = null;
        for (Run r : runs().values()) {
            if (r.dawns.size() >= d) {
                int less = best == null ? 1 : best.mostOpen(d) - r.mostOpen(d);
                if (less > 0 || less == 0 && ahead(r, best)) {
                    best = r;
                }
            }
        }
        return best == null ? NONE : what == 0 ? best.mostOpen(d) : best.figures();
    }

    int bars(int d) {
        if (d < 1 || d > 30) {
            return BAD;
        }
        for (int t = 0; t < told.tales.size(); t++) {
            boolean with = false;
            boolean without = false;
            for (Run r : runs().values()) {
                if (r.dawns.size() >= d) {
                    boolean has = r.row.indexOf('1' + t) >= 0;
                    with |= has;
                    without |= !has;
                }
            }
            if (with && !without) {
                return t;
            }
        }
        return NONE;
    }

    int longer() {
        Map<String, Run> more = new LinkedHashMap<>();
        addRows("", 1, more);
        int best = 0;
        for (Run r : more.values()) {
            best = Math.max(best, r.dawns.size());
        }
        return best - best(0);
    }

    // ---- what was heard

    int heard(int d, int open) {
        if (d < 1 || d > 30 || open < 0 || open > 6) {
            return BAD;
        }
        if (heard.size() == 6) {
            return FULL;
        }
        heard.add(new int[] {d, open});
        return heard.size();
    }

    int forget() {
        int n = heard.size();
        heard.clear();
        return n;
    }

    private List<Run> fitting() {
        List<Run> fit = new ArrayList<>();
        for (Run r : runs().values()) {
            boolean fits = r.row.length() == told.tales.size();
            for (int[] h : heard) {
                fits = fits && r.dawns.size() >= h[0] && r.dawns.get(h[0] - 1).size() == h[1];
            }
            if (fits) {
                fit.add(r);
            }
        }
        return fit;
    }

    int orders(int what) {
        if (what != 0 && what != 1) {
            return BAD;
        }
        Run first = null;
        for (Run r : fitting()) {
            first = ahead(r, first) ? r : first;
        }
        return what == 0 ? fitting().size() : first == null ? 0 : first.figures();
    }

    int surely(int d) {
        if (d < 1 || d > 30) {
            return BAD;
        }
        List<Integer> all = null;
        for (Run r : fitting()) {
            if (r.dawns.size() >= d) {
                if (all == null) {
                    all = new ArrayList<>(r.dawns.get(d - 1));
                }
                all.retainAll(r.dawns.get(d - 1));
            }
        }
        return all == null ? NONE : all.stream().mapToInt(t -> 1 << t).sum();
    }

    long odds(int x, int n, int what) {
        if (x < 0 || x > 10 || n < 0 || n > 9 || what != 0 && what != 1) {
            return BAD;
        }
        java.math.BigInteger upper = java.math.BigInteger.valueOf(10 - x).pow(n);
        java.math.BigInteger lower = java.math.BigInteger.TEN.pow(n);
        java.math.BigInteger common = upper.gcd(lower);
        return (what == 0 ? upper : lower).divide(common).longValueExact();
    }

    // ---- kinds, images

    private int body(int kind, int t) {
        long[] numbers = {1, 10, 100, 1000, 10000, 100000};
        int[] above = {-1, 0, 0, 1, 2, 0};
        trace += numbers[kind];
        int up = above[kind] < 0 ? 0 : body(above[kind], t);
        long within = told.tales.stream().filter(p -> p[1] == t).count();
        int[] answers = {
            left(now, t), up + told.tales.get(t)[0], up - (int) within, up * 2, up + now.open.size(), up + now.night
        };
        return answers[kind];
    }

    int mark(int kind, int t) {
        return kind < 0 || kind > 5 || noTale(t) ? NO : body(kind, t);
    }

    private static ArrayDeque<Moment> copy(ArrayDeque<Moment> of) {
        ArrayDeque<Moment> c = new ArrayDeque<>();
        for (Moment m : of) {
            c.add(m.copy());
        }
        return c;
    }

    int keep(int image) {
        if (image != 0 && image != 1) {
            return BAD;
        }
        imageNow[image] = now.copy();
        imagePast.set(image, copy(past));
        return now.night;
    }

    int back(int image) {
        if (image != 0 && image != 1) {
            return BAD;
        }
        if (imageNow[image] == null) {
            return STATE;
        }
        now = imageNow[image].copy();
        past = copy(imagePast.get(image));
        return now.night;
    }

    int count(int what) {
        int[] answers = {
            told.tales.size(), told.nights.size(), told.memory, told.depth, heard.size(), past.size(), text.length()
        };
        return what < 0 || what > 6 ? BAD : answers[what];
    }

    long trace() {
        return trace;
    }
}
