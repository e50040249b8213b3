import java.util.Arrays;

/** She lives as long as at first light some tale is not at its end. */
public final class DawnTales {
    public static final int BAD = -1, STATE = -2, FULL = -3, NONE = -9;
    /** What none is, where a number may be below 0. */
    public static final int NO = -1000000;

    private static final int MOST_TALES = 6;
    private static final int MOST_NIGHTS = 8;
    /** Nine hours, and the one that LONGER asks for. */
    private static final int MOST_HOURS = 10;
    private static final int LAST_NIGHT = 99;
    private static final int LAST_ASKED_NIGHT = 200;
    private static final int MOST_DAWNS = 30;
    private static final int MOST_HEARD = 6;
    private static final int MOST_UNDONE = 10;
    private static final int MOST_BYTES = 150;
    private static final int IMAGES = 2;
    private static final int ANY = 9;
    private static final int FAULTY = -10;

    private final Text text = new Text();
    private final Book book = new Book();
    /** A text is read into it first, since a faulty one must change nothing. */
    private final Book draft = new Book();
    private final Stand stand = new Stand();
    private final Stand[] images = new Stand[IMAGES];
    private int kept;
    private final Rows rows = new Rows();
    private final int[] heardDawn = new int[MOST_HEARD];
    private final int[] heardOpen = new int[MOST_HEARD];
    private int heardCount;
    private final TaleKind[] kinds = {
        new TaleKind(), new BorrowedKind(), new RingKind(), new TrueKind(), new EndlessKind(), new JokeKind()
    };

    public DawnTales() {
        for (int i = 0; i < images.length; i++) {
            images[i] = new Stand();
        }
        startAnew();
    }

    // ---- the tales

    public int type(int c) {
        if (c < 0 || c > 255) {
            return BAD;
        }
        return text.add(c) ? text.length : FULL;
    }

    public int clear() {
        return text.empty();
    }

    public int tales() {
        int items = text.readInto(draft);
        if (items < 0) {
            return FAULTY - text.at;
        }
        book.copyFrom(draft);
        text.empty();
        startAnew();
        return items;
    }

    public int tale(int t, int what) {
        if (!book.isTale(t)) {
            return BAD;
        }
        Telling told = stand.now;
        switch (what) {
            case 0: return book.partsOf(t);
            case 1: return book.withinOf(t);
            case 2: return told.leftOf(t);
            case 3: return told.isBegun(t) ? 1 : 0;
            case 4: return told.placeOf(t);
            case 5: return told.isBegun(t) ? told.lastNightOf(t) : NONE;
            default: return BAD;
        }
    }

    public int hours(int night) {
        return night < 0 || night > LAST_ASKED_NIGHT ? BAD : book.hoursOf(night);
    }

    // ---- telling

    public int begins(int t) {
        if (!book.isTale(t)) {
            return BAD;
        }
        if (!stand.now.mayBegin(book, t)) {
            return STATE;
        }
        stand.remember();
        stand.now.beginTale(t);
        return stand.now.hoursLeft;
    }

    public int tells() {
        if (!stand.now.hasHour() || stand.now.deep == 0) {
            return STATE;
        }
        stand.remember();
        stand.now.tellParts(stand.now.innermost(), 1);
        return stand.now.hoursLeft;
    }

    public int silent() {
        if (!stand.now.hasHour()) {
            return STATE;
        }
        stand.remember();
        stand.now.passHour();
        return stand.now.hoursLeft;
    }

    public int dawn() {
        if (!stand.now.mayDawn()) {
            return STATE;
        }
        stand.remember();
        return stand.now.meetDawn(book) ? 1 : 0;
    }

    public int undo() {
        return stand.takeBack() ? stand.known : STATE;
    }

    public int now(int what) {
        Telling told = stand.now;
        switch (what) {
            case 0: return told.night;
            case 1: return told.hoursLeft;
            case 2: return told.deep;
            case 3: return told.innermost();
            case 4: return told.lives ? 1 : 0;
            case 5: return told.saved;
            case 6: return told.endedBits();
            case 7: return told.mayBeginBits(book);
            default: return BAD;
        }
    }

    // ---- what comes

    public int on() {
        return rows.walkOn(book, stand.now);
    }

    public int by(int row) {
        return rows.spread(row, book.tales) ? rows.walk(book) : BAD;
    }

    public int best(int what) {
        if (!isPairPart(what)) {
            return BAD;
        }
        rows.know(book);
        int i = rows.bestPlace();
        return what == 0 ? rows.savedBy(i) : rows.rowAt(i);
    }

    public int fewest(int d, int what) {
        if (d < 0 || d > MOST_DAWNS || !isPairPart(what)) {
            return BAD;
        }
        rows.know(book);
        int i = rows.fewestPlace(d);
        if (i < 0) {
            return NONE;
        }
        return what == 0 ? rows.sizeAt(i) : rows.rowAt(i);
    }

    public int mind(int d, int what) {
        if (!isDawn(d) || !isPairPart(what)) {
            return BAD;
        }
        rows.know(book);
        int i = rows.mindPlace(d);
        if (i < 0) {
            return NONE;
        }
        return what == 0 ? rows.mostOpen(i, d) : rows.rowAt(i);
    }

    public int bars(int d) {
        if (!isDawn(d)) {
            return BAD;
        }
        rows.know(book);
        return firstOf(rows.inAllThatReach(d));
    }

    public int longer() {
        int longerBest = rows.bestIfLonger(book);
        rows.know(book);
        return longerBest - rows.savedBy(rows.bestPlace());
    }

    // ---- what was heard

    public int heard(int d, int open) {
        if (!isDawn(d) || open < 0 || open > MOST_TALES) {
            return BAD;
        }
        if (heardCount < 0 || heardCount >= MOST_HEARD) {
            return FULL;
        }
        heardDawn[heardCount] = d;
        heardOpen[heardCount] = open;
        heardCount++;
        return heardCount;
    }

    public int forget() {
        int had = heardCount;
        heardCount = 0;
        return had;
    }

    public int orders(int what) {
        if (!isPairPart(what)) {
            return BAD;
        }
        rows.know(book);
        int many = 0;
        int first = 0;
        for (int i = rows.fullFrom; i < rows.size; i++) {
            if (isAsHeard(i)) {
                first = many == 0 ? rows.rowAt(i) : first;
                many++;
            }
        }
        return what == 0 ? many : first;
    }

    public int surely(int d) {
        if (!isDawn(d)) {
            return BAD;
        }
        rows.know(book);
        int bits = NONE;
        for (int i = rows.fullFrom; i < rows.size; i++) {
            if (rows.savedBy(i) >= d && isAsHeard(i)) {
                int open = rows.openAt(i, d);
                bits = bits == NONE ? open : bits & open;
            }
        }
        return bits;
    }

    public long odds(int x, int n, int what) {
        if (x < 0 || x > 10 || n < 0 || n > 9 || !isPairPart(what)) {
            return BAD;
        }
        int common = commonDivisor(10, 10 - x);
        int base = (what == 0 ? 10 - x : 10) / Math.max(common, 1);
        long power = 1;
        for (int i = 0; i < n; i++) {
            power *= base;
        }
        return power;
    }

    // ---- kinds, images

    public int mark(int kind, int t) {
        if (kind < 0 || kind >= kinds.length || !book.isTale(t)) {
            return NO;
        }
        return kinds[kind].marked(book, stand.now, t);
    }

    public int keep(int image) {
        if (!isImage(image)) {
            return BAD;
        }
        images[image].copyFrom(stand);
        kept |= 1 << image;
        return stand.now.night;
    }

    public int back(int image) {
        if (!isImage(image)) {
            return BAD;
        }
        if ((kept >> image & 1) == 0) {
            return STATE;
        }
        stand.copyFrom(images[image]);
        return stand.now.night;
    }

    public int count(int what) {
        switch (what) {
            case 0: return book.tales;
            case 1: return book.nights;
            case 2: return book.memory;
            case 3: return book.depth;
            case 4: return heardCount;
            case 5: return stand.known;
            case 6: return text.length;
            default: return BAD;
        }
    }

    public long trace() {
        long all = 0;
        for (int i = 0; i < kinds.length; i++) {
            all += kinds[i].traced;
        }
        return all;
    }

    // ---- helpers

    private void startAnew() {
        stand.start(book);
        kept = 0;
        heardCount = 0;
        rows.drop();
    }

    private boolean isAsHeard(int i) {
        for (int h = 0; h < heardCount && h < MOST_HEARD; h++) {
            int d = heardDawn[h];
            if (rows.savedBy(i) < d || Integer.bitCount(rows.openAt(i, d)) != heardOpen[h]) {
                return false;
            }
        }
        return true;
    }

    private static boolean isDawn(int d) {
        return d >= 1 && d <= MOST_DAWNS;
    }

    private static boolean isPairPart(int what) {
        return what == 0 || what == 1;
    }

    private static boolean isImage(int image) {
        return image >= 0 && image < IMAGES;
    }

    private static int firstOf(int bits) {
        for (int t = 0; t < MOST_TALES; t++) {
            if ((bits >> t & 1) == 1) {
                return t;
            }
        }
        return NONE;
    }

    private static int commonDivisor(int large, int small) {
        int a = large;
        int b = small;
        for (int i = 0; i < 32 && b != 0; i++) {
            int rest = a % b;
            a = b;
            b = rest;
        }
        return a;
    }

    /** What a text told: it stays the same until the next one is read. */
    private static final class Book {
        int tales;
        final int[] parts = new int[MOST_TALES];
        final int[] within = new int[MOST_TALES];
        int nights;
        final int[] nightHours = new int[MOST_NIGHTS];
        int memory;
        int depth;

        Book() {
            wipe();
            settle();
        }

        /** 0 stands for what was not told yet. */
        void wipe() {
            tales = 0;
            nights = 0;
            memory = 0;
            depth = 0;
        }

        void settle() {
            if (nights == 0) {
                addNight(5);
            }
            if (memory == 0) {
                memory = 3;
            }
            if (depth == 0) {
                depth = 6;
            }
        }

        void copyFrom(Book other) {
            tales = other.tales;
            System.arraycopy(other.parts, 0, parts, 0, MOST_TALES);
            System.arraycopy(other.within, 0, within, 0, MOST_TALES);
            nights = other.nights;
            System.arraycopy(other.nightHours, 0, nightHours, 0, MOST_NIGHTS);
            memory = other.memory;
            depth = other.depth;
        }

        void lengthenNights() {
            for (int i = 0; i < MOST_NIGHTS; i++) {
                nightHours[i]++;
            }
        }

        void addTale(int itsParts, int itsPlace) {
            if (tales >= 0 && tales < MOST_TALES) {
                parts[tales] = itsParts;
                within[tales] = itsPlace;
                tales++;
            }
        }

        void addNight(int itsHours) {
            if (nights >= 0 && nights < MOST_NIGHTS) {
                nightHours[nights] = itsHours;
                nights++;
            }
        }

        boolean isTale(int t) {
            return t >= 0 && t < tales && t < MOST_TALES;
        }

        int partsOf(int t) {
            return isTale(t) ? parts[t] : 0;
        }

        int withinOf(int t) {
            return isTale(t) ? within[t] : ANY;
        }

        int toldWithin(int t) {
            int many = 0;
            for (int i = 0; i < tales; i++) {
                many += withinOf(i) == t ? 1 : 0;
            }
            return many;
        }

        int hoursOf(int night) {
            if (nights <= 0 || nights > MOST_NIGHTS || night < 0) {
                return 0;
            }
            return nightHours[night % nights];
        }
    }

    /** The bytes typed, and the place at which they are read. */
    private static final class Text {
        static final int END = 0, LETTERS = 1, NUMBER = 2, SEMICOLON = 3, WRONG = 4;
        static final int MOST_NUMBER = 99;

        final int[] bytes = new int[MOST_BYTES];
        int length;
        int at;
        int after;
        int token;
        int value;

        boolean add(int c) {
            if (length < 0 || length >= MOST_BYTES) {
                return false;
            }
            bytes[length] = c;
            length++;
            return true;
        }

        int empty() {
            int had = length;
            length = 0;
            return had;
        }

        /** How many items; below 0, if one is faulty: the token at which the reading stopped is the fault then. */
        int readInto(Book told) {
            told.wipe();
            after = 0;
            nextToken();
            int items = 0;
            for (int i = 0; i < MOST_BYTES && token != END; i++) {
                if (!readItem(told)) {
                    return BAD;
                }
                items++;
            }
            told.settle();
            return items;
        }

        boolean readItem(Book told) {
            if (token != LETTERS) {
                return false;
            }
            boolean isRead = false;
            switch (value) {
                case 't': isRead = readTale(told); break;
                case 'n': isRead = readNights(told); break;
                case 'm': isRead = readMemory(told); break;
                case 'd': isRead = readDepth(told); break;
                default: break;
            }
            if (!isRead || token != SEMICOLON) {
                return false;
            }
            nextToken();
            return true;
        }

        boolean readTale(Book told) {
            if (told.tales >= MOST_TALES) {
                return false;
            }
            nextToken();
            if (!isNumber(1, 9)) {
                return false;
            }
            int itsParts = value;
            nextToken();
            if (!isNumber(0, told.tales - 1) && !isNumber(ANY, ANY)) {
                return false;
            }
            told.addTale(itsParts, value);
            nextToken();
            return true;
        }

        boolean readNights(Book told) {
            if (told.nights > 0) {
                return false;
            }
            nextToken();
            for (int i = 0; i < MOST_NIGHTS && isNumber(1, 9); i++) {
                told.addNight(value);
                nextToken();
            }
            return told.nights > 0;
        }

        boolean readMemory(Book told) {
            if (told.memory > 0) {
                return false;
            }
            nextToken();
            if (!isNumber(1, 9)) {
                return false;
            }
            told.memory = value;
            nextToken();
            return true;
        }

        boolean readDepth(Book told) {
            if (told.depth > 0) {
                return false;
            }
            nextToken();
            if (!isNumber(1, 6)) {
                return false;
            }
            told.depth = value;
            nextToken();
            return true;
        }

        boolean isNumber(int from, int to) {
            return token == NUMBER && value >= from && value <= to;
        }

        void nextToken() {
            for (int i = 0; i < MOST_BYTES && byteAt(after) == ' '; i++) {
                after++;
            }
            at = after;
            int first = byteAt(at);
            if (at >= length) {
                token = END;
            } else if (isLetter(first)) {
                takeLetters();
            } else if (isDigit(first)) {
                takeNumber();
            } else {
                token = first == ';' ? SEMICOLON : WRONG;
                after = at + 1;
            }
        }

        /** No item has a name of more letters than one, so of a longer one no letter is told. */
        void takeLetters() {
            for (int i = 0; i < MOST_BYTES && isLetter(byteAt(after)); i++) {
                after++;
            }
            token = LETTERS;
            value = after - at == 1 ? byteAt(at) : 0;
        }

        void takeNumber() {
            value = 0;
            for (int i = 0; i < MOST_BYTES && isDigit(byteAt(after)); i++) {
                value = Math.min(value * 10 + byteAt(after) - '0', MOST_NUMBER + 1);
                after++;
            }
            boolean hasZeroAhead = byteAt(at) == '0' && after - at > 1;
            token = value > MOST_NUMBER || hasZeroAhead ? WRONG : NUMBER;
        }

        int byteAt(int i) {
            return i >= 0 && i < length && i < MOST_BYTES ? bytes[i] : -1;
        }

        static boolean isLetter(int c) {
            return c >= 'a' && c <= 'z';
        }

        static boolean isDigit(int c) {
            return c >= '0' && c <= '9';
        }
    }

    /** How far the tales are told: NOW, as it was before, or as it would come. */
    private static final class Telling {
        int night;
        int hoursLeft;
        int saved;
        boolean lives;
        int begun;
        int openBits;
        int deep;
        final int[] open = new int[MOST_TALES];
        final int[] left = new int[MOST_TALES];
        final int[] lastNight = new int[MOST_TALES];

        void start(Book book) {
            night = 0;
            hoursLeft = book.hoursOf(0);
            saved = 0;
            lives = true;
            begun = 0;
            openBits = 0;
            deep = 0;
            for (int t = 0; t < MOST_TALES; t++) {
                left[t] = book.partsOf(t);
            }
        }

        void copyFrom(Telling other) {
            night = other.night;
            hoursLeft = other.hoursLeft;
            saved = other.saved;
            lives = other.lives;
            begun = other.begun;
            openBits = other.openBits;
            deep = other.deep;
            System.arraycopy(other.open, 0, open, 0, MOST_TALES);
            System.arraycopy(other.left, 0, left, 0, MOST_TALES);
            System.arraycopy(other.lastNight, 0, lastNight, 0, MOST_TALES);
        }

        int leftOf(int t) {
            return t >= 0 && t < MOST_TALES ? left[t] : 0;
        }

        int lastNightOf(int t) {
            return t >= 0 && t < MOST_TALES ? lastNight[t] : 0;
        }

        boolean isBegun(int t) {
            return (begun >> t & 1) == 1;
        }

        int openAt(int place) {
            return place >= 0 && place < deep && place < MOST_TALES ? open[place] : NONE;
        }

        int innermost() {
            return deep > 0 && deep <= MOST_TALES ? open[deep - 1] : NONE;
        }

        int placeOf(int t) {
            for (int i = 0; i < deep; i++) {
                if (openAt(i) == t) {
                    return i;
                }
            }
            return NONE;
        }

        int endedBits() {
            int bits = 0;
            for (int t = 0; t < MOST_TALES; t++) {
                bits |= isBegun(t) && left[t] == 0 ? 1 << t : 0;
            }
            return bits;
        }

        int mayBeginBits(Book book) {
            int bits = 0;
            for (int t = 0; t < book.tales; t++) {
                bits |= mayBegin(book, t) ? 1 << t : 0;
            }
            return bits;
        }

        static int bitOf(int t) {
            return t >= 0 && t < MOST_TALES ? 1 << t : 0;
        }

        boolean hasHour() {
            return lives && hoursLeft > 0;
        }

        boolean mayBegin(Book book, int t) {
            if (!hasHour() || !book.isTale(t) || isBegun(t) || deep >= book.depth) {
                return false;
            }
            int within = book.within[t];
            return within == ANY || within == innermost();
        }

        boolean mayDawn() {
            return lives && hoursLeft <= 0 && night < LAST_NIGHT;
        }

        void beginTale(int t) {
            if (t >= 0 && t < MOST_TALES && deep >= 0 && deep < MOST_TALES) {
                begun |= 1 << t;
                openBits |= 1 << t;
                open[deep] = t;
                deep++;
                tellParts(t, 1);
            }
        }

        /** Of the innermost. */
        void tellParts(int t, int many) {
            if (t >= 0 && t < MOST_TALES) {
                left[t] -= many;
                lastNight[t] = night;
                hoursLeft -= many;
                if (left[t] <= 0) {
                    openBits &= ~(1 << t);
                    deep--;
                }
            }
        }

        void passHour() {
            hoursLeft--;
        }

        /** Goes through the hours in which nothing else can come: a row goes on at a last part, or at one's end. */
        void goOn() {
            if (deep > 0) {
                int t = innermost();
                tellParts(t, Math.min(Math.max(leftOf(t) - 1, 1), hoursLeft));
            } else {
                hoursLeft = 0;
            }
        }

        /** Whether a row of tales goes on here. */
        boolean isPause() {
            return deep == 0 || leftOf(innermost()) == 1;
        }

        /** What is open within another was told of later, so that the outermost is forgotten first. */
        boolean isForgotten(Book book) {
            return night - lastNightOf(openAt(0)) >= book.memory;
        }

        boolean meetDawn(Book book) {
            if (deep == 0 || isForgotten(book)) {
                lives = false;
                return false;
            }
            saved++;
            night++;
            hoursLeft = book.hoursOf(night);
            return true;
        }
    }

    /** NOW and what may be undone of it; an image keeps both. */
    private static final class Stand {
        final Telling now = new Telling();
        /** Oldest first. */
        final Telling[] past = new Telling[MOST_UNDONE];
        int known;

        Stand() {
            for (int i = 0; i < MOST_UNDONE; i++) {
                past[i] = new Telling();
            }
        }

        void start(Book book) {
            now.start(book);
            known = 0;
        }

        void copyFrom(Stand other) {
            now.copyFrom(other.now);
            for (int i = 0; i < MOST_UNDONE; i++) {
                past[i].copyFrom(other.past[i]);
            }
            known = other.known;
        }

        void remember() {
            if (known >= MOST_UNDONE) {
                loseOldest();
            }
            if (known >= 0 && known < MOST_UNDONE) {
                past[known].copyFrom(now);
                known++;
            }
        }

        void loseOldest() {
            Telling oldest = past[0];
            for (int i = 1; i < MOST_UNDONE; i++) {
                past[i - 1] = past[i];
            }
            past[MOST_UNDONE - 1] = oldest;
            known = MOST_UNDONE - 1;
        }

        boolean takeBack() {
            if (known <= 0 || known > MOST_UNDONE) {
                return false;
            }
            known--;
            now.copyFrom(past[known]);
            return true;
        }
    }

    /** All rows of some tales, those of fewer first, then by figures, and what comes by each. */
    private static final class Rows {
        /** 1 + 6 + 30 + 120 + 360 + 720 + 720. */
        static final int MOST_ROWS = 1957;
        /** What is open at a dawn is six bits, so that ten dawns go into a long. */
        static final int DAWNS_A_WORD = 10;
        static final int WORDS = 3;

        final int[] row = new int[MOST_ROWS];
        final byte[] saved = new byte[MOST_ROWS];
        final long[] opened = new long[MOST_ROWS * WORDS];
        /** By such a row she comes to no more of its tales, so that what more tales it has changes nothing. */
        final boolean[] isStuck = new boolean[MOST_ROWS];
        int size;
        int fullFrom;
        boolean known;
        int longerBest;

        final Telling walker = new Telling();
        final long[] walkedOpen = new long[WORDS];
        final int[] order = new int[MOST_TALES];
        int orderSize;
        int next;
        final Book longerBook = new Book();

        /** Whether the row is one of so many tales: its tales are the order to be walked then. */
        boolean spread(int figures, int tales) {
            orderSize = 0;
            if (figures < 0) {
                return false;
            }
            int used = 0;
            int rest = figures;
            for (int i = 0; i < MOST_TALES && rest > 0; i++) {
                int t = rest % 10 - 1;
                if (t < 0 || t >= tales || (used >> t & 1) == 1) {
                    return false;
                }
                used |= 1 << t;
                rest /= 10;
                orderSize++;
            }
            if (rest > 0) {
                return false;
            }
            rest = figures;
            for (int i = Math.min(orderSize, MOST_TALES) - 1; i >= 0; i--) {
                order[i] = rest % 10 - 1;
                rest /= 10;
            }
            return true;
        }

        /** From the beginning by the order that was spread: how many dawns she is saved at. */
        int walk(Book book) {
            Arrays.fill(walkedOpen, 0L);
            walker.start(book);
            next = 0;
            for (int d = 0; d < MOST_DAWNS; d++) {
                walkNight(book);
                long bits = walker.openBits;
                if (!walker.meetDawn(book)) {
                    return d;
                }
                int word = d / DAWNS_A_WORD;
                if (word < WORDS) {
                    walkedOpen[word] |= bits << shiftOf(d);
                }
            }
            return MOST_DAWNS;
        }

        void walkNight(Book book) {
            for (int h = 0; h < MOST_HOURS && walker.hoursLeft > 0; h++) {
                int t = next >= 0 && next < orderSize && next < MOST_TALES ? order[next] : NONE;
                if (walker.isPause() && walker.mayBegin(book, t)) {
                    walker.beginTale(t);
                    next++;
                } else {
                    walker.goOn();
                }
            }
        }

        int walkOn(Book book, Telling now) {
            walker.copyFrom(now);
            for (int d = 0; d < MOST_DAWNS; d++) {
                for (int h = 0; h < MOST_HOURS && walker.hasHour(); h++) {
                    walker.goOn();
                }
                if (!walker.mayDawn() || !walker.meetDawn(book)) {
                    return d;
                }
            }
            return MOST_DAWNS;
        }

        void drop() {
            known = false;
            longerBest = NONE;
        }

        /** Texts may be read often and seldom be asked about, so the rows are walked when first asked for. */
        void know(Book book) {
            if (!known) {
                walkAll(book);
                known = true;
            }
        }

        void walkAll(Book book) {
            list(book.tales);
            int shorter = 0;
            for (int i = 0; i < size && i < MOST_ROWS; i++) {
                for (; shorter < i && row[shorter] != row[i] / 10; shorter++) {
                }
                if (isStuck[shorter] && shorter < i) {
                    takeOver(shorter, i);
                } else {
                    spread(row[i], book.tales);
                    saved[i] = (byte) walk(book);
                    System.arraycopy(walkedOpen, 0, opened, i * WORDS, WORDS);
                    isStuck[i] = next < orderSize;
                }
            }
        }

        void takeOver(int from, int to) {
            saved[to] = saved[from];
            System.arraycopy(opened, from * WORDS, opened, to * WORDS, WORDS);
            isStuck[to] = true;
        }

        /** Each tale put behind each row of one tale fewer: so they come in the order of their figures. */
        void list(int tales) {
            row[0] = 0;
            size = 1;
            fullFrom = 0;
            for (int many = 0; many < tales && many < MOST_TALES; many++) {
                int end = size;
                for (int i = fullFrom; i < end && i < MOST_ROWS; i++) {
                    listLonger(row[i], tales);
                }
                fullFrom = end;
            }
        }

        void listLonger(int shorter, int tales) {
            int used = bitsOf(shorter);
            for (int t = 0; t < tales && t < MOST_TALES; t++) {
                if ((used >> t & 1) == 0 && size >= 0 && size < MOST_ROWS) {
                    row[size] = shorter * 10 + t + 1;
                    size++;
                }
            }
        }

        /** The rows are walked anew for it, so that what is known of them is lost. */
        int bestIfLonger(Book book) {
            if (longerBest == NONE) {
                longerBook.copyFrom(book);
                longerBook.lengthenNights();
                walkAll(longerBook);
                longerBest = savedBy(bestPlace());
                known = false;
            }
            return longerBest;
        }

        int bestPlace() {
            int found = 0;
            for (int i = 1; i < size; i++) {
                if (savedBy(i) > savedBy(found)) {
                    found = i;
                }
            }
            return found;
        }

        int fewestPlace(int d) {
            for (int i = 0; i < size; i++) {
                if (savedBy(i) >= d) {
                    return i;
                }
            }
            return NONE;
        }

        int mindPlace(int d) {
            int found = NONE;
            int fewest = MOST_TALES + 1;
            for (int i = 0; i < size; i++) {
                if (savedBy(i) >= d && mostOpen(i, d) < fewest) {
                    found = i;
                    fewest = mostOpen(i, d);
                }
            }
            return found;
        }

        int inAllThatReach(int d) {
            boolean isReached = false;
            int bits = (1 << MOST_TALES) - 1;
            for (int i = 0; i < size; i++) {
                if (savedBy(i) >= d) {
                    isReached = true;
                    bits &= bitsOf(rowAt(i));
                }
            }
            return isReached ? bits : 0;
        }

        /** The most that are open at one of the first d dawns. */
        int mostOpen(int i, int d) {
            int most = 0;
            for (int k = 1; k <= d && k <= MOST_DAWNS; k++) {
                most = Math.max(most, Integer.bitCount(openAt(i, k)));
            }
            return most;
        }

        int rowAt(int i) {
            return i >= 0 && i < MOST_ROWS ? row[i] : 0;
        }

        int savedBy(int i) {
            return i >= 0 && i < MOST_ROWS ? saved[i] : 0;
        }

        int sizeAt(int i) {
            return Integer.bitCount(bitsOf(rowAt(i)));
        }

        /** What is open at the d-th dawn (from 1 on); nothing, if she is not saved there. */
        int openAt(int i, int d) {
            int word = i * WORDS + (d - 1) / DAWNS_A_WORD;
            if (i < 0 || i >= MOST_ROWS || d < 1 || d > MOST_DAWNS || word >= opened.length) {
                return 0;
            }
            return (int) (opened[word] >>> shiftOf(d - 1)) & (1 << MOST_TALES) - 1;
        }

        static int shiftOf(int d) {
            return d % DAWNS_A_WORD * MOST_TALES;
        }

        static int bitsOf(int figures) {
            int bits = 0;
            int rest = figures;
            for (int i = 0; i < MOST_TALES && rest > 0; i++) {
                bits |= Telling.bitOf(rest % 10 - 1);
                rest /= 10;
            }
            return bits;
        }
    }

    /** A kind's body adds its number to what is traced, and asks the kind above for its part. */
    private static class TaleKind {
        long traced;

        int marked(Book book, Telling told, int t) {
            traced += 1;
            return told.leftOf(t);
        }
    }

    private static class BorrowedKind extends TaleKind {
        int marked(Book book, Telling told, int t) {
            traced += 10;
            return super.marked(book, told, t) + book.partsOf(t);
        }
    }

    private static class RingKind extends TaleKind {
        int marked(Book book, Telling told, int t) {
            traced += 100;
            return super.marked(book, told, t) - book.toldWithin(t);
        }
    }

    private static final class TrueKind extends BorrowedKind {
        int marked(Book book, Telling told, int t) {
            traced += 1000;
            return super.marked(book, told, t) * 2;
        }
    }

    private static final class EndlessKind extends RingKind {
        int marked(Book book, Telling told, int t) {
            traced += 10000;
            return super.marked(book, told, t) + told.deep;
        }
    }

    private static final class JokeKind extends TaleKind {
        int marked(Book book, Telling told, int t) {
            traced += 100000;
            return super.marked(book, told, t) + told.night;
        }
    }
}
