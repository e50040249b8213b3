/** Terms, part 1, sentence by sentence: tales, nights, memory, depth, and the text that tells them. */
public final class Terms1Test {
    private static final Check C = new Check("Terms1Test");
    private static final String SIX = "t1 9;t1 9;t1 9;t1 9;t1 9;t1 9;";

    public static void main(String[] args) {
        sixTales();
        parts();
        withinOneToldAhead();
        withinWhichever();
        hours();
        oneToEightNights();
        nightsComeRound();
        fiveAlone();
        memory();
        depth();
        textOf150();
        blanks();
        itemsEnd();
        tales();
        onceAtMost();
        lettersSideBySide();
        bytesThatBeginNone();
        lettersThatBeginNoItem();
        seventhTale();
        ninthHour();
        toldAgain();
        numberBeyond();
        numberAbove99();
        zeroAhead();
        endsTooEarly();
        firstFaultCounts();
        C.finish();
    }

    private static DawnTales inTheMiddle(String text) {
        DawnTales x = Check.told("n 2 3;m 2;d 4;t 3 9;t 2 0;");
        x.begins(0);
        x.keep(1);
        x.heard(1, 1);
        x.mark(5, 0);
        Check.write(x, text);
        return x;
    }

    /** The fault is told by a new object and by one that was told of other tales before; nothing changes there. */
    private static void faulty(String text, int place) {
        C.due("tales() of '" + text + "'", Check.read(text), -10 - place);
        DawnTales x = inTheMiddle(text);
        C.due("tales() once more of '" + text + "'", x.tales(), -10 - place);
        C.same("after the fault of '" + text + "'", Check.everythingOf(x), Check.everythingOf(inTheMiddle(text)));
    }

    private static void good(String text, int items) {
        C.due("tales() of '" + text + "'", Check.read(text), items);
        C.due("tales() once more of '" + text + "'", inTheMiddle(text).tales(), items);
    }

    private static void sixTales() {
        C.sentence("Terms 1", "TALES 0 .. (6 of them at most)");
        C.due("none told", Check.told("n 5;").count(0), 0);
        C.due("the first is tale 0", Check.told("t 4 9;").tale(0, 0), 4);
        DawnTales x = Check.told(SIX);
        C.due("six", x.count(0), 6);
        C.due("the sixth is tale 5", x.tale(5, 0), 1);
        C.due("there is no tale 6", x.tale(6, 0), Check.BAD);
        faulty(SIX + "t1 9;", 30);
    }

    private static void parts() {
        C.sentence("Terms 1", "PARTS (1 .. 9; each takes an hour)");
        for (int parts = 1; parts <= 9; parts++) {
            C.due("parts", Check.told("t" + parts + " 9;").tale(0, 0), parts);
        }
        faulty("t 0 9;", 2);
        faulty("t 10 9;", 2);
        faulty("t 90 9;", 2);
        DawnTales x = Check.told("n 9;t 9 9;");
        for (int left = 8; left >= 0; left--) {
            C.due("hours left", left == 8 ? x.begins(0) : x.tells(), left);
            C.due("parts left", x.tale(0, 2), left);
        }
    }

    private static void withinOneToldAhead() {
        C.sentence("Terms 1", "WITHIN (a TALE told ahead, in which alone it may be begun;");
        DawnTales x = Check.told("t9 9;t9 0;t9 1;t9 2;t9 3;t9 4;");
        for (int t = 1; t < 6; t++) {
            C.due("within the one ahead", x.tale(t, 1), t - 1);
        }
        C.due("within the first", Check.told("t1 9;t1 9;t1 9;t1 9;t1 9;t1 0;").tale(5, 1), 0);
        faulty("t 1 0;", 4);
        faulty("t 1 9;t 1 1;", 10);
        faulty("t 1 9;t 1 2;", 10);
        faulty("t1 9;t1 9;t1 9;t1 9;t1 9;t1 5;", 28);
        faulty("t1 9;t1 9;t1 9;t1 9;t1 9;t1 6;", 28);
        DawnTales y = Check.told("t 3 9;t 3 9;t 3 0;");
        C.due("nowhere", y.begins(2), Check.STATE);
        y.begins(1);
        C.due("in another", y.begins(2), Check.STATE);
        y.tells();
        y.tells();
        y.begins(0);
        C.due("in it", y.begins(2), 0);
    }

    private static void withinWhichever() {
        C.sentence("Terms 1", "9: whichever, or none)");
        DawnTales x = Check.told("t 3 9;t 3 9;");
        C.due("within 9", x.tale(1, 1), 9);
        C.due("in none", x.begins(1), 4);
        C.due("in whichever", x.begins(0), 3);
        for (int within = 1; within <= 99; within++) {
            if (within != 9) {
                faulty("t 1 9;t 1 " + within + ";", 10);
            }
        }
    }

    private static void hours() {
        C.sentence("Terms 1", "NIGHTS: hours (1 .. 9)");
        for (int hours = 1; hours <= 9; hours++) {
            DawnTales x = Check.told("n " + hours + ";");
            C.due("hours of a night", x.hours(0), hours);
            C.due("hours left at first", x.now(1), hours);
        }
        faulty("n 0;", 2);
        faulty("n 10;", 2);
        faulty("n 1 2 0;", 6);
        faulty("n 1 2 10;", 6);
        faulty("n 1 2 3 4 5 6 7 0;", 16);
        faulty("n 1 2 3 4 5 6 7 10;", 16);
    }

    private static void oneToEightNights() {
        C.sentence("Terms 1", "1 to 8 of them");
        String text = "n";
        for (int n = 1; n <= 8; n++) {
            text += " " + n;
            C.due("nights", Check.told(text + ";").count(1), n);
            C.due("the last one's hours", Check.told(text + ";").hours(n - 1), n);
        }
        faulty("n;", 1);
        faulty("n ;", 2);
        faulty(text + " 9;", 18);
    }

    private static void nightsComeRound() {
        C.sentence("Terms 1", "that come round");
        DawnTales x = Check.told("n 1 2 3 4 5 6 7 8;");
        for (int night = 0; night <= 200; night++) {
            C.due("hours(" + night + ")", x.hours(night), night % 8 + 1);
        }
        DawnTales y = Check.told("n 9 1 4;");
        for (int night = 0; night <= 200; night++) {
            C.due("hours(" + night + ")", y.hours(night), night % 3 == 0 ? 9 : night % 3 == 1 ? 1 : 4);
        }
        DawnTales z = Check.told("n 2 1 1;m 9;t 9 9;");
        z.begins(0);
        for (int night = 0; night < 7; night++) {
            C.due("hours left of night " + night, night == 0 ? z.now(1) + 1 : z.now(1), night % 3 == 0 ? 2 : 1);
            while (z.now(1) > 0) {
                z.silent();
            }
            z.dawn();
        }
    }

    private static void fiveAlone() {
        C.sentence("Terms 1", "(5 alone, if none are told)");
        for (String text : new String[] {"", "m 3;", "t 1 9;d 1;"}) {
            DawnTales x = Check.told(text);
            C.due("one night", x.count(1), 1);
            C.due("of five hours", x.hours(0), 5);
            C.due("as are all", x.hours(200), 5);
        }
        DawnTales y = Check.told("n 1 2 3;");
        y.tales();
        C.due("none told anew: one night", y.count(1), 1);
        C.due("none told anew: five hours", y.now(1), 5);
    }

    private static void memory() {
        C.sentence("Terms 1", "MEMORY (1 .. 9 nights; 3 at first)");
        for (int nights = 1; nights <= 9; nights++) {
            C.due("memory", Check.told("m " + nights + ";").count(2), nights);
        }
        C.due("at first", new DawnTales().count(2), 3);
        C.due("not told", Check.told("d 1;").count(2), 3);
        DawnTales x = Check.told("m 7;");
        x.tales();
        C.due("not told anew", x.count(2), 3);
        faulty("m 0;", 2);
        faulty("m 10;", 2);
    }

    private static void depth() {
        C.sentence("Terms 1", "DEPTH (1 .. 6; 6 at first)");
        for (int depth = 1; depth <= 6; depth++) {
            C.due("depth", Check.told("d " + depth + ";").count(3), depth);
        }
        C.due("at first", new DawnTales().count(3), 6);
        C.due("not told", Check.told("m 1;").count(3), 6);
        DawnTales x = Check.told("d 2;");
        x.tales();
        C.due("not told anew", x.count(3), 6);
        faulty("d 0;", 2);
        faulty("d 7;", 2);
        faulty("d 9;", 2);
    }

    private static void textOf150() {
        C.sentence("Terms 1", "They are a text (150 bytes at most), read byte by byte");
        String blanks = " ".repeat(140);
        good(blanks + "t 9 9;t 1;".substring(0, 6) + "    ", 1);
        good("n 1;t 9 9;" + blanks, 2);
        good(blanks + " ".repeat(10), 0);
        good(blanks + "t 1 9;d 6;", 2);
        faulty(blanks + "t 1 9;d 66", 148);
        faulty(" ".repeat(149) + ";", 149);
        DawnTales x = new DawnTales();
        Check.write(x, " ".repeat(144) + "t 1 9;");
        C.due("a byte more", x.type(';'), Check.FULL);
        C.due("is not read", x.tales(), 1);
    }

    private static void blanks() {
        C.sentence("Terms 1", "blanks (32) between TOKENS");
        good("t 1 9;", 1);
        good("t1 9;", 1);
        good("   t   1   9   ;   ", 1);
        good("t1 9;t1 9;n1 1;m1;d1;", 5);
        good("n1 2 3 4 5 6 7 8;", 1);
        good("     ", 0);
        C.due("19 is one number, not two", Check.read("t19;"), -11);
        for (int c : new int[] {0, 9, 10, 13, 31, 33, 160, 255}) {
            faulty("t" + (char) c + "1 9;", 1);
            faulty("t 1 9;" + (char) c, 6);
        }
    }

    private static void itemsEnd() {
        C.sentence("Terms 1", "ITEMS, each letters and what is told, ended by ;");
        faulty("t 1 9 t 1 9;", 6);
        faulty("t 1 9 9;", 6);
        faulty("n 5 m 3;", 4);
        faulty("m 3 3;", 4);
        faulty("d 3 3;", 4);
        faulty("m 3 d 3;", 4);
        faulty(";", 0);
        faulty("t 1 9;;", 6);
        faulty("3 m;", 0);
    }

    private static void tales() {
        C.sentence("Terms 1", "t P W (a tale) ; n and hours (1 to 8 of them: nights) ; m N (memory) ; d N (depth)");
        good("t 1 9;", 1);
        good("n 3;", 1);
        good("m 3;", 1);
        good("d 3;", 1);
        good("d 3;m 3;n 3;t 1 9;t 1 0;", 5);
        good("t 1 9;n 3;t 1 0;d 3;t 1 1;m 3;", 6);
        faulty("t;", 1);
        faulty("t 3;", 3);
        faulty("t n;", 2);
        faulty("t 3 n;", 4);
        faulty("n n;", 2);
        faulty("m;", 1);
        faulty("m m;", 2);
        faulty("d;", 1);
        faulty("d d;", 2);
    }

    private static void onceAtMost() {
        C.sentence("Terms 1", "n, m, d once each at most");
        good("n 1;m 1;d 1;", 3);
        faulty("n 1;n 1;", 4);
        faulty("m 1;m 1;", 4);
        faulty("d 1;d 1;", 4);
        faulty("n 5;m 1;t 1 9;n 5;", 14);
        faulty("m 3;n 5;t 1 9;m 3;", 14);
        faulty("d 6;n 5;t 1 9;d 6;", 14);
        good("t 1 9;t 1 9;", 2);
    }

    private static void lettersSideBySide() {
        C.sentence("Terms 1", "TOKENS are letters a .. z side by side, NUMBERS and ;");
        faulty("tt 1 9;", 0);
        faulty("nm 1;", 0);
        faulty("mm 1;", 0);
        faulty("td 1 9;", 0);
        faulty("m 1;dd 1;", 4);
        faulty("az", 0);
        faulty("m 1z;", 3);
        faulty("m 1 a;", 4);
        faulty("t 1 9;m3;t1 9m;", 13);
        good("m 3 ;d 2;", 2);
        good("m3;d2;", 2);
    }

    private static void bytesThatBeginNone() {
        C.sentence("Terms 1", "of a byte that begins none");
        for (int c = 0; c < 256; c++) {
            boolean begins = c == ' ' || c == ';' || c >= '0' && c <= '9' || c >= 'a' && c <= 'z';
            if (!begins) {
                faulty("m 3;" + (char) c, 4);
                faulty("m 3" + (char) c + ";", 3);
                faulty("m" + (char) c + "3;", 1);
            }
        }
    }

    private static void lettersThatBeginNoItem() {
        C.sentence("Terms 1", "letters that begin no ITEM");
        for (char c = 'a'; c <= 'z'; c++) {
            if ("tnmd".indexOf(c) < 0) {
                faulty(c + " 1 9;", 0);
                faulty(" m 3; " + c + ";", 6);
            }
        }
        faulty("T 1 9;", 0);
        faulty("N 1;", 0);
    }

    private static void seventhTale() {
        C.sentence("Terms 1", "a seventh tale");
        faulty(SIX + "t1 9;", 30);
        faulty(SIX + "  t 0 0;", 32);
        faulty(SIX + "t", 30);
        faulty(SIX + "m 3;t", 34);
        good(SIX + "m 3;n 1;d 1;", 9);
    }

    private static void ninthHour() {
        C.sentence("Terms 1", "a ninth hour of nights");
        faulty("n 1 2 3 4 5 6 7 8 9;", 18);
        faulty("n 1 2 3 4 5 6 7 8  10;", 19);
        faulty("n 1 1 1 1 1 1 1 1 1", 18);
        good("n 1 2 3 4 5 6 7 8 ;", 1);
    }

    private static void toldAgain() {
        C.sentence("Terms 1", "what is told again that may not");
        faulty("n 1; n 0;", 5);
        faulty("m 1; m", 5);
        faulty("d 1; d;", 5);
        faulty("d 1;m 1;n 1;m 1;", 12);
    }

    private static void numberBeyond() {
        C.sentence("Terms 1", "a NUMBER beyond what it may be, too)");
        for (int n = 0; n <= 99; n++) {
            String number = n + ";";
            C.due("t " + n, Check.read("t " + n + " 9;"), n >= 1 && n <= 9 ? 1 : -12);
            C.due("t 1 " + n, Check.read("t 1 9;t 1 " + number), n == 0 || n == 9 ? 2 : -20);
            C.due("n " + n, Check.read("n " + number), n >= 1 && n <= 9 ? 1 : -12);
            C.due("m " + n, Check.read("m " + number), n >= 1 && n <= 9 ? 1 : -12);
            C.due("d " + n, Check.read("d " + number), n >= 1 && n <= 6 ? 1 : -12);
        }
    }

    private static void numberAbove99() {
        C.sentence("Terms 1", "a NUMBER above 99");
        for (String large : new String[] {"100", "103", "999", "259", "65539", "4294967299", "18446744073709551619"}) {
            faulty("m " + large + ";", 2);
            faulty("t " + large + " 9;", 2);
            faulty("n 1 " + large + ";", 4);
            faulty("d " + large + ";", 2);
            faulty("m 3;" + large, 4);
        }
        faulty("m " + "1".repeat(148), 2);
    }

    private static void zeroAhead() {
        C.sentence("Terms 1", "or with a 0 ahead of others, that TOKEN's");
        faulty("m 03;", 2);
        faulty("t 01 9;", 2);
        faulty("t 1 09;", 4);
        faulty("t 1 9;t 1 00;", 10);
        faulty("n 1 02;", 4);
        faulty("d 006;", 2);
        good("t 1 9;t 1 0;", 2);
        faulty("m " + "0".repeat(147) + "3", 2);
    }

    private static void endsTooEarly() {
        C.sentence("Terms 1", "the text's length, if it ends too early");
        String whole = "t 1 9;n 1 2;m 3;d 2;";
        for (int length = 0; length <= whole.length(); length++) {
            String text = whole.substring(0, length);
            int items = text.length() - text.replace(";", "").length();
            boolean isWhole = text.isEmpty() || text.endsWith(";");
            C.due("tales() of '" + text + "'", Check.read(text), isWhole ? items : -10 - length);
            C.due("tales() of '" + text + "  '", Check.read(text + "  "), isWhole ? items : -10 - length - 2);
        }
        faulty("t", 1);
        faulty("t 1 9", 5);
        faulty("t 1 9    ", 9);
        faulty("n", 1);
        faulty("n 5", 3);
        faulty("m", 1);
        faulty("d 6", 3);
        faulty("m" + " ".repeat(149), 150);
        faulty(" ".repeat(147) + "m 3", 150);
    }

    private static void firstFaultCounts() {
        C.sentence("Terms 1", "the place of the first byte of the first TOKEN that can't stand there");
        faulty("m 0;d 0;", 2);
        faulty("abc;m 0;", 0);
        faulty("  abc;", 2);
        faulty("m 3;  xyz 1;?", 6);
        faulty("t 1 9;  t  1   77  ;", 15);
        faulty("m  ;", 3);
        faulty("m 3 nights;", 4);
        faulty("m ?", 2);
        faulty("m 10", 2);
        faulty("m 3 10", 4);
    }
}
