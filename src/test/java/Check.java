import java.io.IOException;
import java.nio.file.Files;
import java.nio.file.Path;

/** Counts the answers that are not the ones that are due, and the sentences of the document that were asked about. */
final class Check {
    static final int BAD = -1, STATE = -2, FULL = -3, NONE = -9;

    private static final Path DOCUMENT = Path.of("../shared/DOC.md");
    private static String document;

    private final String name;
    private String sentence = "";
    private int sentences;
    private int asked;
    private int wrong;

    Check(String name) {
        this.name = name;
    }

    /** What the answers from here on are about: the words must stand in that part of the document. */
    void sentence(String part, String words) {
        sentence = part + " '" + words + "': ";
        sentences++;
        if (!partOf(part).contains(words)) {
            wrong++;
            System.out.println(name + ": " + part + " has no sentence '" + words + "'");
        }
    }

    void due(String what, long got, long want) {
        asked++;
        if (got != want) {
            wrong++;
            System.out.println(name + ": " + sentence + what + " answered " + got + ", due is " + want);
        }
    }

    void same(String what, String got, String want) {
        asked++;
        if (!got.equals(want)) {
            wrong++;
            System.out.println(name + ": " + sentence + what + ":\n  is  " + got + "\n  due " + want);
        }
    }

    /** Ends the test: exit code 1 if an answer was not due. */
    void finish() {
        System.out.println(name + ": " + sentences + " sentences, " + asked + " asked, " + wrong + " wrong");
        if (wrong != 0 || asked == 0) {
            System.exit(1);
        }
    }

    /** "Terms 1" to "Terms 4", "Refused", "Promise 1" to "Promise 29", "What it is": what stands there, in one line. */
    private static String partOf(String part) {
        String all = document();
        int from = all.indexOf(headOf(part));
        if (from < 0) {
            return "";
        }
        int end = all.length();
        for (String next : new String[] {"\n## ", "\n======== ", "\nRefused, and", "\nThe constants: "}) {
            int at = all.indexOf(next, from + 1);
            end = at >= 0 && at < end ? at : end;
        }
        return all.substring(from, end).replaceAll("\\s+", " ");
    }

    private static String headOf(String part) {
        if (part.startsWith("Terms ")) {
            return "\n======== " + part.substring(6) + " ";
        }
        if (part.equals("Refused")) {
            return "\nRefused, and";
        }
        if (part.equals("The constants")) {
            return "\nThe constants: ";
        }
        return "\n## " + part + (part.startsWith("Promise ") ? ":" : "\n");
    }

    private static String document() {
        if (document == null) {
            try {
                document = Files.readString(DOCUMENT);
            } catch (IOException e) {
                System.out.println("no document: " + e);
                System.exit(1);
            }
        }
        return document;
    }

    static void write(DawnTales x, String text) {
        for (int i = 0; i < text.length(); i++) {
            x.type(text.charAt(i));
        }
    }

    /** A new object that has read a text. */
    static DawnTales told(String text) {
        DawnTales x = new DawnTales();
        write(x, text);
        if (x.tales() < 0) {
            System.out.println("a text of a test is faulty: " + text);
            System.exit(1);
        }
        return x;
    }

    /** What a text is answered with by a new object. */
    static int read(String text) {
        DawnTales x = new DawnTales();
        write(x, text);
        return x.tales();
    }

    /** All that an object tells of its state at once, but for what comes. */
    static String stateOf(DawnTales x) {
        StringBuilder s = new StringBuilder();
        for (int w = 0; w < 8; w++) {
            s.append(x.now(w)).append(' ');
        }
        for (int w = 0; w < 7; w++) {
            s.append(x.count(w)).append(' ');
        }
        for (int t = 0; t < 6; t++) {
            for (int w = 0; w < 6; w++) {
                s.append(x.tale(t, w)).append(' ');
            }
        }
        return s.append(x.trace()).toString();
    }

    /** NOW alone: what an image keeps, but for what may be undone. */
    static String nowOf(DawnTales x) {
        StringBuilder s = new StringBuilder();
        for (int w = 0; w < 7; w++) {
            s.append(x.now(w)).append(' ');
        }
        for (int t = 0; t < x.count(0); t++) {
            for (int w = 2; w < 6; w++) {
                s.append(x.tale(t, w)).append(' ');
            }
        }
        return s.append(x.count(5)).toString();
    }

    /** All that an object holds, asked with calls that use it up: its images, what may be undone, what was heard, its text. */
    static String everythingOf(DawnTales x) {
        StringBuilder s = new StringBuilder(stateOf(x));
        s.append(" comes ").append(x.on()).append(' ').append(x.best(0)).append(' ').append(x.best(1));
        s.append(' ').append(x.fewest(1, 1)).append(' ').append(x.mind(1, 1)).append(' ').append(x.bars(1));
        s.append(" heard ").append(x.orders(0)).append(' ').append(x.orders(1)).append(' ').append(x.surely(1));
        for (int night = 0; night < 9; night++) {
            s.append(' ').append(x.hours(night));
        }
        undoAll(x, s.append(" undo "));
        for (int image = 0; image < 2; image++) {
            s.append(" image ").append(x.back(image)).append(' ').append(nowOf(x));
            undoAll(x, s);
        }
        s.append(" text ").append(x.tales()).append(' ').append(x.count(0)).append(' ').append(x.count(6));
        return s.toString();
    }

    private static void undoAll(DawnTales x, StringBuilder s) {
        int more = x.undo();
        for (int i = 0; i < 10 && more >= 0; i++) {
            s.append(more).append(':').append(x.now(0)).append(x.now(1)).append(x.now(2)).append(x.now(4)).append(x.now(6));
            s.append(' ');
            more = x.undo();
        }
    }
}
