/** Promises 1 to 4, 6 and 28: a new object, the text, what it tells. */
public final class TextTest {
    private static final Check C = new Check("TextTest");

    public static void main(String[] args) {
        newObject();
        type();
        clear();
        nothingOfOlderTexts();
        goodTexts();
        faultyTexts();
        faultChangesNothing();
        readAnew();
        hours();
        count();
        C.finish();
    }

    private static void newObject() {
        C.sentence("Promise 1", "As told; no TALES, nights of 5 hours.");
        DawnTales x = new DawnTales();
        int[] counts = {0, 1, 3, 6, 0, 0, 0};
        for (int w = 0; w < counts.length; w++) {
            C.due("new count(" + w + ")", x.count(w), counts[w]);
        }
        int[] now = {0, 5, 0, Check.NONE, 1, 0, 0, 0};
        for (int w = 0; w < now.length; w++) {
            C.due("new now(" + w + ")", x.now(w), now[w]);
        }
        C.due("new hours(0)", x.hours(0), 5);
        C.due("new hours(200)", x.hours(200), 5);
        C.due("new tale(0, 0)", x.tale(0, 0), Check.BAD);
        C.due("new trace()", x.trace(), 0);
        C.due("new undo()", x.undo(), Check.STATE);
        C.due("new back(0)", x.back(0), Check.STATE);
        C.due("new clear()", x.clear(), 0);
        C.due("new forget()", x.forget(), 0);
        C.due("new tales()", x.tales(), 0);
    }

    private static void type() {
        C.sentence("Promise 2", "A byte (0 .. 255) comes to THE TEXT: how many it has. BAD; FULL.");
        DawnTales x = new DawnTales();
        C.due("type(-1)", x.type(-1), Check.BAD);
        C.due("type(256)", x.type(256), Check.BAD);
        C.due("type(least)", x.type(Integer.MIN_VALUE), Check.BAD);
        C.due("type(0)", x.type(0), 1);
        C.due("type(255)", x.type(255), 2);
        for (int i = 3; i <= 150; i++) {
            C.due("type " + i, x.type(' '), i);
        }
        C.due("type of a full text", x.type(' '), Check.FULL);
        C.due("BAD ahead of FULL", x.type(256), Check.BAD);
        C.due("a full text's bytes", x.count(6), 150);
        C.due("the fault in it", x.tales(), -10);
    }

    private static void clear() {
        C.sentence("Promise 3", "THE TEXT is empty: how many bytes it had.");
        DawnTales x = new DawnTales();
        Check.write(x, "t 1");
        C.due("clear()", x.clear(), 3);
        C.due("clear() again", x.clear(), 0);
        C.due("type after clear", x.type('m'), 1);
        Check.write(x, " 4;");
        C.due("only what came after clear is read", x.tales(), 1);
        C.due("it told the memory", x.count(2), 4);
    }

    /** A token at the text's end doesn't go on into bytes that stood there before. */
    private static void nothingOfOlderTexts() {
        C.sentence("Promise 3", "THE TEXT is empty");
        String[][] texts = {{"m 34;", "m 3", "3"}, {"m  3;", "m", "1"}, {"m 3;nn", "m 3;n", "5"}, {"m 3 ;", "m 3", "3"}};
        for (String[] t : texts) {
            DawnTales x = new DawnTales();
            Check.write(x, t[0]);
            C.due("clear()", x.clear(), t[0].length());
            Check.write(x, t[1]);
            C.due("'" + t[1] + "' after '" + t[0] + "'", x.tales(), -10 - Integer.parseInt(t[2]));
        }
        C.sentence("Promise 4", "and is empty then");
        DawnTales x = Check.told("t 1 9;n 1 1;m 3;");
        Check.write(x, "t 1 9;n 1");
        C.due("an end too early after a text that was read", x.tales(), -19);
        x.clear();
        Check.write(x, "t 1 9;");
        C.due("an item alone after a text that was read", x.tales(), 1);
    }

    private static void goodTexts() {
        C.sentence("Promise 4", "THE TEXT tells all, and is empty then: how many ITEMS.");
        good("", 0, 0, 1, 3, 6);
        good("     ", 0, 0, 1, 3, 6);
        good("t 3 9;", 1, 1, 1, 3, 6);
        good("t3 9;", 1, 1, 1, 3, 6);
        good("  t  3  9  ;  ", 1, 1, 1, 3, 6);
        good("t1 9;t1 0;t1 1;t1 2;t1 3;t9 4;", 6, 6, 1, 3, 6);
        good("n 1 2 3 4 5 6 7 8;", 1, 0, 8, 3, 6);
        good("n9;", 1, 0, 1, 3, 6);
        good("m 1;", 1, 0, 1, 1, 6);
        good("m 9;", 1, 0, 1, 9, 6);
        good("d 1;", 1, 0, 1, 3, 1);
        good("d 6;n 5;m 3;", 3, 0, 1, 3, 6);
        good("d2;t 1 9;m8;t 2 0;n 1 9;", 5, 2, 2, 8, 2);
    }

    private static void good(String text, int items, int tales, int nights, int memory, int depth) {
        DawnTales x = new DawnTales();
        Check.write(x, text);
        C.due("tales() of '" + text + "'", x.tales(), items);
        C.due("TALES of '" + text + "'", x.count(0), tales);
        C.due("nights of '" + text + "'", x.count(1), nights);
        C.due("MEMORY of '" + text + "'", x.count(2), memory);
        C.due("DEPTH of '" + text + "'", x.count(3), depth);
        C.due("the text is empty after '" + text + "'", x.count(6), 0);
    }

    private static void faultyTexts() {
        tokenFaults();
        taleFaults();
        otherFaults();
    }

    private static void tokenFaults() {
        C.sentence("Promise 4", "-10 less FAULT: nothing changes.");
        faulty(";", 0);
        faulty(" ; ", 1);
        faulty("5;", 0);
        faulty("x;", 0);
        faulty("tt 1 9;", 0);
        faulty("nm 1;", 0);
        faulty("tz 1 9;", 0);
        faulty("ta 1 9;", 0);
        faulty("m 3z", 3);
        faulty("az", 0);
        faulty("T 1 9;", 0);
        faulty("{", 0);
        faulty("`", 0);
        faulty("m\t3;", 1);
        faulty("m 3;#", 4);
        faulty("m 3\u00e93;", 3);
        faulty("m -3;", 2);
        faulty("m 3:", 3);
        faulty("m 3/", 3);
        faulty("m 03;", 2);
        faulty("m 00;", 2);
        faulty("m 100;", 2);
        faulty("m 99;", 2);
        faulty("m 4294967297;", 2);
        faulty("m 99999999999999999999999999;", 2);
        faulty("\u0000", 0);
    }

    private static void taleFaults() {
        C.sentence("Promise 4", "-10 less FAULT: nothing changes.");
        faulty("t", 1);
        faulty("t  ", 3);
        faulty("t 1", 3);
        faulty("t 1 9", 5);
        faulty("t 1 9   ", 8);
        faulty("t;", 1);
        faulty("t 0 9;", 2);
        faulty("t 10 9;", 2);
        faulty("t 1;", 3);
        faulty("t 1 0;", 4);
        faulty("t 1 8;", 4);
        faulty("t 1 10;", 4);
        faulty("t 1 n;", 4);
        faulty("t 1 9 9;", 6);
        faulty("t 1 9;;", 6);
        faulty("t 1 9 t 1 9;", 6);
        faulty("t 1 9;t 1 1;", 10);
        faulty("t 1 9;t 1 0;t 1 2;", 16);
        faulty("t1 9;t1 9;t1 9;t1 9;t1 9;t1 9;t1 9;", 30);
        faulty("t1 9;t1 9;t1 9;t1 9;t1 9;t1 6;", 28);
        faulty("t1 9;t1 9;t1 9;t1 9;t1 9;t1 9;t", 30);
    }

    private static void otherFaults() {
        C.sentence("Promise 4", "-10 less FAULT: nothing changes.");
        faulty("n", 1);
        faulty("n;", 1);
        faulty("n 5", 3);
        faulty("n 0;", 2);
        faulty("n 10;", 2);
        faulty("n 5 0;", 4);
        faulty("n 5 x;", 4);
        faulty("n 5 n;", 4);
        faulty("n 1 2 3 4 5 6 7 8 9;", 18);
        faulty("n 1 2 3 4 5 6 7 8", 17);
        faulty("n 1;t 1 9;n 1;", 10);
        faulty("m", 1);
        faulty("m;", 1);
        faulty("m 3", 3);
        faulty("m 0;", 2);
        faulty("m 10;", 2);
        faulty("m 3 3;", 4);
        faulty("m 3;m 3;", 4);
        faulty("d", 1);
        faulty("d 0;", 2);
        faulty("d 7;", 2);
        faulty("d 6 6;", 4);
        faulty("d 6;m 3;d 6;", 8);
    }

    private static void faulty(String text, int place) {
        DawnTales x = new DawnTales();
        Check.write(x, text);
        C.due("tales() of '" + text + "'", x.tales(), -10 - place);
        C.due("the text stays: '" + text + "'", x.count(6), text.length());
        C.due("no tale comes of '" + text + "'", x.count(0), 0);
        C.due("the memory stays: '" + text + "'", x.count(2), 3);
    }

    private static void faultChangesNothing() {
        C.sentence("Promise 4", "-10 less FAULT: nothing changes.");
        DawnTales x = Check.told("n 2 3;m 2;d 4;t 3 9;t 2 0;");
        x.begins(0);
        x.heard(1, 1);
        x.keep(1);
        x.mark(5, 0);
        x.best(0);
        Check.write(x, "n 9;m 9;d 1;t 9 9;t 8 9;t 7 9;x");
        String before = Check.stateOf(x);
        C.due("the fault", x.tales(), -10 - 30);
        C.due("a fault changes nothing", before.equals(Check.stateOf(x)) ? 1 : 0, 1);
        C.due("the nights stay", x.hours(1), 3);
        C.due("the image stays", x.back(1), 0);
        Check.write(x, " 1");
        C.due("the text goes on", x.count(6), 33);
    }

    private static void readAnew() {
        C.sentence("Promise 4", "THE TEXT tells all, and is empty then");
        DawnTales x = Check.told("n 1;m 9;d 2;t 3 9;t 2 9;");
        x.begins(0);
        x.dawn();
        x.heard(3, 1);
        x.keep(0);
        x.mark(5, 0);
        C.due("the best of the first text", x.best(0), 4);
        Check.write(x, "t 1 9;");
        C.due("tales() anew", x.tales(), 1);
        int[] counts = {1, 1, 3, 6, 0, 0, 0};
        for (int w = 0; w < counts.length; w++) {
            C.due("anew count(" + w + ")", x.count(w), counts[w]);
        }
        int[] now = {0, 5, 0, Check.NONE, 1, 0, 0, 1};
        for (int w = 0; w < now.length; w++) {
            C.due("anew now(" + w + ")", x.now(w), now[w]);
        }
        C.due("nothing is begun", x.tale(0, 3), 0);
        C.due("no night", x.tale(0, 5), Check.NONE);
        C.due("the second tale is gone", x.tale(1, 0), Check.BAD);
        C.due("the image is gone", x.back(0), Check.STATE);
        C.due("nothing to be undone", x.undo(), Check.STATE);
        C.due("the best of the second text", x.best(0), 0);
        C.due("the trace stays", x.trace(), 100001);
        C.due("an empty text", x.tales(), 0);
        C.due("tells that there is none", x.count(0), 0);
    }

    private static void hours() {
        C.sentence("Promise 6", "HOURS of a NIGHT (0 .. 200). BAD.");
        DawnTales x = Check.told("n 4 1 9;");
        C.due("hours(0)", x.hours(0), 4);
        C.due("hours(1)", x.hours(1), 1);
        C.due("hours(2)", x.hours(2), 9);
        C.due("hours(3)", x.hours(3), 4);
        C.due("hours(200)", x.hours(200), 9);
        C.due("hours(201)", x.hours(201), Check.BAD);
        C.due("hours(-1)", x.hours(-1), Check.BAD);
        C.due("hours(most)", x.hours(Integer.MAX_VALUE), Check.BAD);
    }

    private static void count() {
        C.sentence("Promise 28", "0 TALES, 1 nights that come round, 2 MEMORY, 3 DEPTH, 4 HEARD, 5 how many may be UNDONE, 6 bytes of THE TEXT. BAD.");
        DawnTales x = Check.told("n 4 1 9;m 5;d 2;t 9 9;t 9 9;t 9 9;");
        x.heard(1, 1);
        x.heard(1, 1);
        x.silent();
        x.type('t');
        int[] counts = {3, 3, 5, 2, 2, 1, 1};
        for (int w = 0; w < counts.length; w++) {
            C.due("count(" + w + ")", x.count(w), counts[w]);
        }
        C.due("count(-1)", x.count(-1), Check.BAD);
        C.due("count(7)", x.count(7), Check.BAD);
    }
}
