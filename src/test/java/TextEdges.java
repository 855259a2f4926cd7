import java.util.function.Consumer;

/** Boundary cases of section 1, and of promises 1 to 4. */
final class TextEdges extends Edge {
    private static final String VILLAGES = "o1 1;v0;v0;v0;v0;";
    private static final String SIX = "o1 1;v0;p0 0 1 9;p0 0 1 9;p0 0 1 9;p0 0 1 9;p0 0 1 9;p0 0 1 9;";
    private static final String SEVEN = SIX + "p0 0 1 9;";

    static void run() {
        letters();
        oracle();
        villages();
        persons();
        hadItFrom();
        numbers();
        blanks();
        whereFaultsAre();
        faultOne();
        faultTwo();
        faultThree();
        emptyText();
        newObject();
        feed();
        hillsBegin();
        hillsAnswer();
        fault();
    }

    private static Called good(String text, int persons) {
        Called x = new Called();
        due(x.read(text), persons);
        due(x.fault(), NONE);
        return x;
    }

    private static void faulty(String text, int number, int letter) {
        Called x = new Called();
        due(x.read(text), -10 - number);
        due(x.fault(), letter);
    }

    private static void letters() {
        of("1", "THE HILLS are told in a text (240 letters at most): clauses:");
        String blanks = " ".repeat(232);
        due(good("o1 1;" + blanks.substring(1) + "v7;", 0).village(0, 0), 7);
        due(good("o1 1;" + blanks + "v7;", 0).village(0, 0), 7);
        Called x = new Called();
        x.feedAll("o1 1;" + blanks + "v7;");
        due(x.told(4), 240);
        due(x.feed('x'), FULL);
        due(x.hills(), 0);
        due(x.told(2), 1);
        // all 240 again, now that the text is empty
        x.feedAll("o1 1;" + blanks + "v7;");
        due(x.told(4), 240);
        due(x.feed(';'), FULL);
    }

    private static void oracle() {
        of("1", "'o' P S ';' (THE ORACLE's PATIENCE P, 1 .. 20");
        due(good("o1 1;", 0).told(0), 1);
        due(good("o20 1;", 0).told(0), 20);
        faulty("o0 1;", 2, 1);
        faulty("o21 1;", 2, 1);
        of("1", "and STEP S, 1 .. 9");
        due(good("o1 1;", 0).told(1), 1);
        due(good("o1 9;", 0).told(1), 9);
        faulty("o1 0;", 2, 3);
        faulty("o1 10;", 2, 3);
        of("1", "first, once");
        faulty("v1;o1 1;", 1, 0);
        faulty("p0 0 1 9;o1 1;", 1, 0);
        faulty("o1 1;o1 1;", 3, 5);
        faulty("o1 1;v1;o1 1;", 3, 8);
    }

    private static void villages() {
        of("1", "'v' B ';' (4 VILLAGES at most");
        due(good("o1 1;", 0).told(2), 0);
        due(good("o1 1;v0;", 0).told(2), 1);
        due(good(VILLAGES, 0).told(2), 4);
        faulty(VILLAGES + "v0;", 3, 17);
        of("1", "can BEAR B, 0 .. 99");
        due(good("o1 1;v0;", 0).village(0, 0), 0);
        due(good("o1 1;v99;", 0).village(0, 0), 99);
        due(good("o1 1;v1;v2;v3;v4;", 0).village(3, 0), 4);
        faulty("o1 1;v100;", 2, 6);
        // there is no number below 0 in a text
        faulty("o1 1;v-1;", 1, 6);
    }

    private static void persons() {
        of("1", "'p' K V W H ';' (7 PERSONS at most");
        due(good("o1 1;v0;", 0).told(3), 0);
        due(good(SIX, 6).told(3), 6);
        due(good(SEVEN, 7).told(3), 7);
        faulty(SEVEN + "p0 0 1 9;", 3, 71);
        of("1", "KIND K, 0 .. 3");
        for (int kind = 0; kind <= 3; kind++) due(good("o1 1;v0;p" + kind + " 0 1 9;", 1).person(0, 0), kind);
        faulty("o1 1;v0;p4 0 1 9;", 2, 9);
        of("1", "of VILLAGE V told ahead");
        due(good("o1 1;v0;p0 0 1 9;", 1).person(0, 1), 0);
        due(good("o1 1;v0;v0;p0 1 1 9;", 1).person(0, 1), 1);
        due(good(VILLAGES + "p0 3 1 9;", 1).person(0, 1), 3);
        due(good("o1 1;v0;p0 0 1 9;v0;p0 1 1 9;", 2).person(1, 1), 1);
        faulty("o1 1;p0 0 1 9;v0;", 2, 8);
        faulty("o1 1;v0;p0 1 1 9;v0;", 2, 11);
        of("1", "WIT W, 1 .. 9");
        due(good("o1 1;v0;p0 0 1 9;", 1).person(0, 2), 1);
        due(good("o1 1;v0;p0 0 9 9;", 1).person(0, 2), 9);
        faulty("o1 1;v0;p0 0 0 9;", 2, 13);
        faulty("o1 1;v0;p0 0 10 9;", 2, 13);
    }

    private static void hadItFrom() {
        of("1", "had it from PERSON H, 0 .. 6");
        due(good("o1 1;v0;p0 0 1 9;p0 0 1 0;", 2).person(1, 3), 0);
        due(good("o1 1;v0;p0 0 1 6;p0 0 1 9;p0 0 1 9;p0 0 1 9;p0 0 1 9;p0 0 1 9;p0 0 1 9;", 7).person(0, 3), 6);
        faulty("o1 1;v0;p0 0 1 7;", 2, 15);
        of("1", "perhaps itself");
        due(good("o1 1;v0;p0 0 1 0;", 1).person(0, 3), 0);
        due(good(SIX + "p0 0 1 6;", 7).person(6, 3), 6);
        of("1", "or 9: from nobody");
        due(good("o1 1;v0;p0 0 1 9;", 1).person(0, 3), NONE);
        faulty("o1 1;v0;p0 0 1 8;", 2, 15);
        faulty("o1 1;v0;p0 0 1 10;", 2, 15);
        of("1", "a PERSON that there is not at the end: nobody, too");
        due(good("o1 1;v0;p0 0 1 1;", 1).person(0, 3), NONE);
        due(good("o1 1;v0;p0 0 1 1;p0 0 1 9;", 2).person(0, 3), 1);
        due(good("o1 1;v0;p0 0 1 6;p0 0 1 9;p0 0 1 9;p0 0 1 9;p0 0 1 9;p0 0 1 9;", 6).person(0, 3), NONE);
        due(good("o1 1;v0;p0 0 1 6;p0 0 1 0;", 2).person(1, 8), 0);
    }

    private static void numbers() {
        of("1", "NUMBERS have one to three figures");
        due(good("o2 3;", 0).told(0), 2);
        due(good("o02 03;", 0).told(1), 3);
        due(good("o002 003;v099;", 0).village(0, 0), 99);
        good("o1 1;v000;p000 000 001 009;", 1);
        faulty("o;", 1, 1);
        faulty("o0002 3;", 2, 1);
        of("1", "a word is one letter");
        faulty("oo1 1;", 1, 1);
        faulty("o1 1;vv1;", 1, 6);
        faulty("o1 1;v1;pp0 0 1 9;", 1, 9);
        faulty("o1 1;;", 1, 5);
    }

    private static void blanks() {
        of("1", "blanks (32) may stand anywhere but within NUMBERS");
        due(good("  o  7   8  ;  v  9  ;  p  3  0  4  9  ;  ", 1).person(0, 2), 4);
        good("o1 1;v1;p0 0 1 9;", 1);
        // 20 torn apart is a patience of 2 and a step of 0
        faulty("o2 0 9;", 2, 3);
        faulty("o1 1 1;", 1, 5);
        faulty("o1 1;v1 0;", 1, 8);
        for (int letter = 0; letter < 256; letter++) {
            if (letter == ' ' || letter == ';' || letter >= '0' && letter <= '9') continue;
            faulty("o1" + (char) letter + "1;", 1, 2);
        }
        of("1", "two NUMBERS side by side need one");
        good("o1 1;", 0);
        faulty("o11;", 1, 3);
        faulty("o1 1;v1;p00 1 9;", 2, 12);
        faulty("o1 1;v1;p0 019;", 2, 11);
        // none is needed beside a word
        good("o1 1;v1;v2;p0 1 1 0;", 1);
    }

    private static void whereFaultsAre() {
        of("1", "FAULTS, at the first letter that has one");
        faulty("o0 0;", 2, 1);
        faulty("o1 0;x", 2, 3);
        faulty("o21x", 2, 1);
        faulty("o1 x0;", 1, 3);
        faulty("   x", 1, 3);
        faulty("o1 1;v100;o", 2, 6);
        of("1", "(the end at the text's length)");
        faulty("o", 1, 1);
        faulty("o1", 1, 2);
        faulty("o1 ", 1, 3);
        faulty("o1 1", 1, 4);
        faulty("o1 1   ", 1, 7);
        faulty("o1 1;v", 1, 6);
        faulty("o1 1;v0;p0 0 1", 1, 14);
        faulty("o1 1" + " ".repeat(236), 1, 240);
        // a number at the very end is still looked at
        faulty("o1 0", 2, 3);
        of("1", "of these the least");
        // cannot stand there, and has four figures
        faulty("1234", 1, 0);
        faulty("o1 1 1234;", 1, 5);
        faulty("o1 1;1234", 1, 5);
        // cannot stand there, and is once too often
        faulty("o1 1 o", 1, 5);
        faulty("o1 1;vo", 1, 6);
        faulty("o1 1;v0;v0;v0;v0 v", 1, 17);
    }

    private static void faultOne() {
        of("1", "1 it cannot stand there (a letter that is no word, another word first than 'o')");
        for (int letter = 0; letter < 256; letter++) {
            if (letter != 'o' && letter != ' ') faulty("" + (char) letter, 1, 0);
            if (letter != 'o' && letter != 'v' && letter != 'p' && letter != ' ') faulty("o1 1;" + (char) letter, 1, 5);
        }
        faulty("o;1 1", 1, 1);
        faulty("o1;", 1, 2);
        faulty("o1 1;v;", 1, 6);
        faulty("o1 1;v0;p0 0 1;", 1, 14);
        faulty("o1 1;v0;p0 0 1 9 9;", 1, 17);
    }

    private static void faultTwo() {
        of("1", "2 a NUMBER of four figures or more");
        faulty("o0001 1;", 2, 1);
        faulty("o1 0001;", 2, 3);
        faulty("o1 1;v0000;", 2, 6);
        faulty("o1 1;v0;p0000 0 1 9;", 2, 9);
        faulty("o1 1;v0;p0 0000 1 9;", 2, 11);
        faulty("o1 1;v0;p0 0 0001 9;", 2, 13);
        faulty("o1 1;v0;p0 0 1 0009;", 2, 15);
        faulty("o" + "0".repeat(200) + "1 1;", 2, 1);
        // 2 to the 32, and 1: no wrap-around may make it a patience of 1
        faulty("o4294967297 1;", 2, 1);
        of("1", "or out of its bounds");
        faulty("o999 1;", 2, 1);
        faulty("o1 999;", 2, 3);
        faulty("o1 1;v999;", 2, 6);
        faulty("o1 1;v0;p999 0 1 9;", 2, 9);
        faulty("o1 1;v0;p0 0 999 9;", 2, 13);
        faulty("o1 1;v0;p0 0 1 999;", 2, 15);
        of("1", "a VILLAGE that there is not");
        faulty("o1 1;p0 0 1 9;", 2, 8);
        faulty("o1 1;v0;p0 1 1 9;", 2, 11);
        faulty(VILLAGES + "p0 4 1 9;", 2, 20);
        faulty("o1 1;v0;p0 999 1 9;", 2, 11);
        of("1", "H of 7, 8 (at its first)");
        faulty("o1 1;v0;p0 0 1 7;", 2, 15);
        faulty("o1 1;v0;p0 0 1 8;", 2, 15);
        faulty("o1 1;v0;p0 0 1   008;", 2, 17);
        faulty("o1 1;v0;p0 0 1 07", 2, 15);
        faulty(SIX + "p0 0 1 7;", 2, 69);
    }

    private static void faultThree() {
        of("1", "3 'o' again");
        faulty("o1 1;o", 3, 5);
        faulty("o1 1;   o0 0;", 3, 8);
        of("1", "a fifth 'v'");
        faulty(VILLAGES + "v", 3, 17);
        faulty(VILLAGES + " v100;", 3, 18);
        faulty(VILLAGES + "p0 0 1 9;v0;", 3, 26);
        of("1", "an eighth 'p' (at it)");
        faulty(SEVEN + "p", 3, 71);
        faulty(SEVEN + "  p4 9 0 8;", 3, 73);
    }

    private static void emptyText() {
        of("1", "An empty text (or one of blanks alone): no HILLS.");
        String none = shown(new Called());
        for (String text : new String[] {"", " ", " ".repeat(240)}) {
            Called x = Called.with("o2 2;v9;p0 0 1 9;");
            due(x.read(text), 0);
            due(x.fault(), NONE);
            same("all is as without HILLS", shown(x), none);
            due(x.year(1), NOT);
            due(x.drift(1), NOT);
            due(x.returned(0), NOT);
        }
        // 'o' alone makes hills already
        Called x = good("o1 1;", 0);
        due(x.year(1), 0);
    }

    private static void newObject() {
        of("Promise 1", "No HILLS.");
        Called x = new Called();
        int[] told = {0, 0, 0, 0, 0, 0, 0, 0, 0, 0, 1, 0, NONE, 0, 0, NONE, NONE, 0, 0};
        for (int what = 0; what < told.length; what++) due(x.told(what), told[what]);
        due(x.fault(), NONE);
        due(x.person(0, 0), UNKNOWN);
        due(x.village(0, 0), UNKNOWN);
        due(x.year(1), NOT);
        due(x.drift(1), NOT);
        due(x.undo(), NOT);
        due(x.returned(0), NOT);
        due(x.goBack(0), NOT);
        due(x.goBack(1), NOT);
        due(x.best(0), NONE);
        due(x.match(NONE), 0);
        due(x.judge(), NONE);
        due(x.tear(), 0);
        due(x.seed(0), 0);
    }

    private static void feed() {
        of("Promise 2", "One letter (a number 0 .. 255) comes behind THE TEXT: how many it has.");
        Called x = new Called();
        due(x.feed(0), 1);
        due(x.feed(255), 2);
        due(x.feed('o'), 3);
        due(x.told(4), 3);
        of("Promise 2", "OUTSIDE");
        for (int letter : new int[] {-1, 256, LEAST, GREATEST}) {
            refused(NEW, y -> y.feed(letter), OUTSIDE);
            refused(RICH, y -> y.feed(letter), OUTSIDE);
        }
        of("Promise 2", "FULL (240)");
        Called y = new Called();
        for (int i = 1; i <= 240; i++) due(y.feed(' '), i);
        due(y.feed(' '), FULL);
        due(y.told(4), 240);
        refused(z -> {
            z.feedAll("o1 1;" + " ".repeat(232) + "v7;");
        }, z -> z.feed('o'), FULL);
        // hills() makes room again
        y.hills();
        due(y.feed(' '), 1);
    }

    private static void hillsBegin() {
        of("Promise 3", "THE TEXT (it is empty then, with a FAULT, too) becomes THE HILLS");
        for (String text : new String[] {"", "o1 1;", "x", "o0 1;", "o1 1;o"}) {
            Called x = new Called();
            x.read(text);
            due(x.told(4), 0);
            // nothing of the text before is ahead of this one
            due(x.read("o5 1;"), 0);
            due(x.told(0), 5);
        }
        of("Promise 3", "(YEAR 0, no FATES, HARM, nothing OWED, PATIENCE as told; no RETURNS, no BOOK; IMAGES, what could be undone are gone; THE SEED stays)");
        Called x = new Called();
        RICH.accept(x);
        x.hills();
        x.read(Check.HILLS);
        same("all begins anew", shown(x), shown(Called.with(Check.HILLS)));
        due(x.goBack(0), NOT);
        due(x.goBack(1), NOT);
        due(x.undo(), NOT);
        Called fewer = Called.with(SEVEN);
        for (int p = 0; p < 7; p++) fewer.tell(p, 99);
        due(fewer.match(NONE), 7 * 98);
        for (int persons = 2; persons >= 0; persons--) {
            fewer.read("o1 1;v0;" + "p0 0 1 9;".repeat(persons));
            for (int p = 0; p < persons; p++) fewer.tell(p, 10);
            due(fewer.match(NONE), persons * 9);
        }
        Called y = new Called();
        y.seed(GREATEST);
        y.read("o1 1;");
        due(y.seed(3), GREATEST);
        y.read("");
        due(y.seed(0), 3);
        // an image of no hills is gone, too
        y.keep(0);
        y.keep(1);
        y.hills();
        due(y.goBack(0), NOT);
        due(y.goBack(1), NOT);
    }

    private static void hillsAnswer() {
        of("Promise 3", "how many PERSONS");
        good("", 0);
        good("o1 1;v0;v0;", 0);
        good("o1 1;v0;p0 0 1 9;", 1);
        good(SEVEN, 7);
        of("Promise 3", "-10 less the number of its FAULT (all else is as it was)");
        faulty("x", 1, 0);
        faulty("o0 1;", 2, 1);
        faulty("o1 1;o", 3, 5);
        Consumer<Called> ahead = x -> {
            richDeeds(x);
            x.read("x");
        };
        for (String text : new String[] {"x", "o0 1;", "o1 1;v50;p0 0 9 9;o"}) {
            // the second one sets only the letter of the fault back
            unchanged(ahead, x -> x.read(text) < -10 ? x.read("x") : 0);
        }
    }

    private static void fault() {
        of("Promise 4", "The letter of the FAULT of the latest hills(); NONE.");
        Called x = new Called();
        due(x.fault(), NONE);
        x.read("o1 1;x");
        due(x.fault(), 5);
        x.feed('y');
        due(x.fault(), 5);
        x.hills();
        due(x.fault(), 0);
        x.hills();
        due(x.fault(), NONE);
        x.read("o1");
        due(x.fault(), 2);
        x.read("o1 1;");
        due(x.fault(), NONE);
        x.read(" ".repeat(239) + "x");
        due(x.fault(), 239);
        Called y = new Called();
        y.read("o1 1;" + " ".repeat(234) + "p");
        due(y.fault(), 240);
    }
}
