/** Boundary cases of section 2: bargains, what is owed, and years. */
final class FateEdges extends Edge {
    static void run() {
        fate();
        patienceAsNow();
        turns();
        kinds();
        oracle();
        ends();
        owed();
        owedHasAnEnd();
        patience();
        told();
        goesUpOnce();
        harm();
        untold();
        whatVillagesTake();
        parts();
        newYear();
        others();
    }

    /** Of a FATE of n, what is left by the only PERSON of such hills. */
    private static int left(String oracle, String kindAndWit, int n) {
        String[] k = kindAndWit.split(" ");
        return Called.with(oracle + "v0;p" + k[0] + " 0 " + k[1] + " 9;").down(0, n, 0);
    }

    private static void fate() {
        of("2", "A PERSON is told a FATE (0, nothing, at first; to 99 harm).");
        Called x = Called.with(Check.HILLS);
        for (int p = 0; p < 5; p++) due(x.person(p, 4), 0);
        due(x.tell(0, 99), 0);
        due(x.person(0, 4), 99);
        due(x.tell(0, 0), 99);
        due(x.person(0, 4), 0);
        due(x.tell(0, 100), OUTSIDE);
        due(x.tell(0, -1), OUTSIDE);
    }

    private static void patienceAsNow() {
        of("2", "BARGAIN over a FATE of f by one of WIT w, turn by turn, THE ORACLE's PATIENCE being p (as it is now):");
        Called x = Called.with("o3 1;v0;p0 0 2 9;p0 0 2 9;p0 0 2 9;p0 0 2 9;");
        for (int p = 0; p < 4; p++) x.tell(p, 50);
        int[] left = {44, 46, 48, 48};
        for (int p = 0; p < 4; p++) {
            due(x.down(p, 50, 0), left[p]);
            due(x.answer(p, p), left[p]);
        }
        x.wit(0, 9);
        due(x.down(0, 50, 0), 41);
    }

    private static void turns() {
        of("2", "one turn answers back: f is less by what the KIND gets off, 0 at least, p is 1 less;");
        due(left("o1 1;", "0 9", 10), 1);
        due(left("o1 1;", "0 9", 9), 0);
        due(left("o1 1;", "0 9", 8), 0);
        due(left("o1 1;", "0 9", 1), 0);
        due(left("o2 1;", "0 9", 19), 1);
        due(left("o2 1;", "0 9", 17), 0);
    }

    private static void kinds() {
        of("2", "by KIND in turn number t (0 the first): 0 (plain) w.");
        due(left("o1 1;", "0 3", 50), 47);
        due(left("o2 1;", "0 3", 50), 44);
        due(left("o3 1;", "0 3", 50), 41);
        of("2", "1 (stubborn) w, and t.");
        due(left("o1 1;", "1 3", 50), 47);
        due(left("o2 1;", "1 3", 50), 43);
        due(left("o3 1;", "1 3", 50), 38);
        // 1 more at 38 by the oracle, then 6
        due(left("o4 1;", "1 3", 50), 33);
        of("2", "2 (shy) w, if t is even, else nothing.");
        due(left("o1 1;", "2 3", 50), 47);
        due(left("o2 1;", "2 3", 50), 47);
        due(left("o3 1;", "2 3", 50), 44);
        // 1 more at 44, then nothing off, then 3
        due(left("o4 1;", "2 3", 50), 45);
        due(left("o5 1;", "2 3", 50), 42);
        of("2", "3 (old woman) twice w, and half of STEP more (cut).");
        due(left("o1 1;", "3 3", 50), 44);
        due(left("o1 2;", "3 3", 50), 43);
        due(left("o1 8;", "3 3", 50), 40);
        due(left("o1 9;", "3 3", 50), 40);
        due(left("o2 9;", "3 9", 50), 6);
    }

    private static void oracle() {
        of("2", "Then THE ORACLE, if p is above 0:");
        // at the third turn p is 0, or 1
        due(left("o3 9;", "0 1", 50), 47);
        due(left("o4 9;", "0 1", 50), 55);
        of("2", "f is STEP more, if t by 3 leaves 2");
        int[] left = {49, 48, 47, 55, 54, 53, 61, 60};
        for (int p = 1; p <= 8; p++) due(left("o" + p + " 9;", "0 1", 50), left[p - 1]);
        // six times in the 20 turns
        due(left("o20 9;", "0 1", 20), 54);
        of("2", "(99 at most)");
        due(left("o4 9;", "0 1", 92), 97);
        due(left("o4 9;", "0 1", 93), 98);
        due(left("o4 9;", "0 1", 94), 98);
        due(left("o4 9;", "0 1", 99), 98);
    }

    private static void ends() {
        of("2", "It ends when p is 0 or f is 0 behind a turn of one; what is left is the FATE.");
        Called x = Called.with("o20 9;v0;p0 0 1 9;");
        due(x.down(0, 1, 1), 1);
        // 0 at the third turn: the oracle says no more
        due(x.down(0, 3, 0), 0);
        due(x.down(0, 3, 1), 3);
        // 1 at the third turn, and 9 more
        due(x.down(0, 4, 0), 38);
        due(x.down(0, 4, 1), 20);
        due(x.tell(0, 4), 0);
        due(x.answer(0, 0), 38);
        due(x.person(0, 4), 38);
        Called y = Called.with("o3 9;v0;p0 0 1 9;");
        due(y.down(0, 2, 1), 2);
        due(y.down(0, 3, 1), 3);
        due(y.down(0, 4, 1), 3);
        due(y.down(0, 4, 0), 1);
        due(Called.with("o1 9;v0;p0 0 1 9;").down(0, 99, 1), 1);
    }

    private static int owedBy(String oracle, int n) {
        Called x = Called.with(oracle + "v0;p0 0 1 9;");
        x.tell(0, n);
        x.answer(0, 0);
        return x.told(6);
    }

    private static void owed() {
        of("2", "What was got off by it (FATE ahead less FATE then, if that is above 0) is OWED");
        // 40 becomes 39, 40, 41
        due(owedBy("o4 3;", 40), 1);
        due(owedBy("o4 4;", 40), 0);
        due(owedBy("o4 5;", 40), 0);
        due(owedBy("o1 1;", 1), 1);
        Called x = Called.with("o4 5;v0;p0 0 1 9;p0 0 9 9;");
        x.tell(1, 9);
        x.answer(1, 1);
        due(x.told(6), 9);
        // with a patience of 3 more is got off, never less than nothing
        x.tell(0, 40);
        due(x.answer(0, 0), 37);
        due(x.told(6), 12);
    }

    private static void owedHasAnEnd() {
        of("2", "(of all; 9999 at most)");
        Called x = Called.with("o20 1;v0;p3 0 9 9;p3 0 9 9;p3 0 9 9;p3 0 9 9;p3 0 9 9;p3 0 9 9;p3 0 9 9;");
        for (int year = 0; year < 14; year++) {
            for (int p = 0; p < 7; p++) {
                x.tell(p, 99);
                x.answer(p, p);
            }
            x.year(1);
        }
        due(x.told(6), 9702);
        int[] fates = {99, 99, 98, 1, 1, 99};
        int[] owed = {9801, 9900, 9998, 9999, 9999, 9999};
        for (int p = 0; p < 6; p++) {
            x.tell(p, fates[p]);
            due(x.answer(p, p), 0);
            due(x.told(6), owed[p]);
        }
        due(x.year(60), 9999);
    }

    private static void patience() {
        of("2", "PATIENCE is 1 less behind a BARGAIN (1 at least).");
        Called x = Called.with("o3 1;v0;p0 0 1 9;p0 0 1 9;p0 0 1 9;p0 0 1 9;");
        for (int p = 0; p < 4; p++) x.tell(p, 50);
        int[] then = {2, 1, 1, 1};
        for (int p = 0; p < 4; p++) {
            x.answer(p, p);
            due(x.told(0), then[p]);
        }
        Called y = Called.with("o1 1;v0;p0 0 9 9;");
        y.tell(0, 1);
        y.answer(0, 0);
        due(y.told(0), 1);
    }

    private static void told() {
        of("2", "TOLD: the FATE of a PERSON becomes n.");
        Called x = Called.with(Check.HILLS);
        x.tell(0, 60);
        due(x.tell(0, 50), 60);
        due(x.person(0, 4), 50);
        due(x.person(1, 4), 0);
        due(x.tell(0, 0), 50);
        due(x.person(0, 4), 0);
    }

    private static void goesUpOnce() {
        of("2", "ANSWERED BACK: its BARGAIN, by itself or by another PERSON that goes up for it (once a YEAR each goes up).");
        Called x = Called.with("o1 1;v0;p0 0 1 9;p0 0 2 9;");
        x.tell(0, 50);
        x.tell(1, 50);
        due(x.answer(0, 0), 49);
        // another may go up for the same one, the same one for no other
        due(x.answer(1, 0), NOT);
        due(x.answer(0, 0), NOT);
        due(x.answer(0, 1), 47);
        due(x.answer(1, 1), NOT);
        x.year(1);
        x.tell(1, 50);
        due(x.answer(1, 0), 49);
        due(x.answer(1, 0), NOT);
    }

    private static void harm() {
        of("2", "A YEAR: each FATE befalls (HARM of the PERSON, 0 at first, is that much more, 9999 at most), FATE is 0;");
        Called x = Called.with("o1 1;v0;p0 0 1 9;p0 0 1 9;");
        due(x.person(0, 5), 0);
        for (int i = 0; i < 100; i++) {
            x.tell(0, 99);
            x.year(1);
        }
        due(x.person(0, 5), 9900);
        due(x.person(0, 4), 0);
        x.tell(0, 98);
        x.year(1);
        due(x.person(0, 5), 9998);
        x.tell(0, 1);
        x.year(1);
        due(x.person(0, 5), 9999);
        x.tell(0, 1);
        x.year(1);
        due(x.person(0, 5), 9999);
        x.tell(0, 99);
        x.tell(1, 99);
        x.year(60);
        due(x.person(0, 5), 9999);
        due(x.person(1, 5), 99);
        due(x.village(0, 3), 10098);
    }

    private static void untold() {
        of("2", "then what is OWED falls on the UNTOLD (PERSONS who were not TOLD in the YEAR, by 0 neither), VILLAGE by VILLAGE:");
        Called x = Called.with("o1 1;v5;v5;v0;p0 0 1 9;p0 1 1 9;p3 2 9 9;");
        x.tell(2, 8);
        x.answer(2, 2);
        due(x.told(8), 3);
        // the first has it first
        due(x.village(0, 2), 5);
        due(x.village(1, 2), 3);
        x.tell(0, 0);
        due(x.told(8), 2);
        due(x.village(0, 2), 0);
        due(x.village(1, 2), 5);
        due(x.year(1), 3);
        due(x.person(0, 5), 0);
        due(x.person(1, 5), 5);
        // told last year is not told in this one
        due(x.told(8), 7);
        due(x.year(1), 0);
        due(x.person(0, 5), 3);
    }

    /** Who is owed 9, of which a village of one can bear so much. */
    private static Called nineOwed(int bear) {
        Called x = Called.with("o1 1;v" + bear + ";v0;p0 0 1 9;p3 1 9 9;");
        x.tell(1, 9);
        x.answer(1, 1);
        return x;
    }

    private static void whatVillagesTake() {
        of("2", "a VILLAGE takes what it can BEAR, or what is left,");
        int[][] due = {{0, 9, 0}, {1, 8, 1}, {8, 1, 8}, {9, 0, 9}, {10, 0, 9}, {99, 0, 9}};
        for (int[] row : due) {
            Called x = nineOwed(row[0]);
            due(x.village(0, 2), row[2]);
            due(x.year(1), row[1]);
            due(x.person(0, 5), row[2]);
        }
        of("2", "if all its PERSONS are UNTOLD");
        Called x = Called.with("o1 1;v9;v0;p0 0 1 9;p0 0 1 9;p3 1 9 9;");
        x.tell(2, 9);
        x.answer(2, 2);
        due(x.village(0, 2), 9);
        x.tell(1, 0);
        due(x.village(0, 2), 0);
        due(x.year(1), 9);
        due(x.person(0, 5), 0);
        due(x.year(1), 0);
        due(x.person(0, 5), 4);
        of("2", "and it has some;");
        Called y = Called.with("o1 1;v9;v0;p3 1 9 9;");
        y.tell(0, 9);
        y.answer(0, 0);
        due(y.village(0, 2), 0);
        due(y.told(10), 0);
        due(y.told(11), NONE);
        due(y.year(60), 9);
    }

    private static void parts() {
        of("2", "each of them has the part of it (cut) as HARM;");
        Called x = Called.with("o1 1;v9;v0;p0 0 1 9;p0 0 1 9;p3 1 9 9;");
        x.tell(2, 10);
        x.answer(2, 2);
        due(x.year(1), 1);
        due(x.person(0, 5), 4);
        due(x.person(1, 5), 4);
        // 1 of two is nothing for each
        due(x.year(1), 0);
        due(x.person(0, 5), 4);
        due(x.person(1, 5), 4);
        // and it has an end, as all HARM has: 99 in each of 102 years
        Called y = Called.with("o20 1;v99;v0;p0 0 1 9;p3 1 9 9;");
        for (int i = 1; i <= 102; i++) {
            y.tell(1, 99);
            y.answer(1, 1);
            y.year(1);
            if (i >= 100) due(y.person(0, 5), Math.min(99 * i, 9999));
        }
        of("2", "it is OWED no more by all that was taken;");
        Called z = Called.with("o1 1;v9;v3;v0;p0 0 1 9;p0 0 1 9;p0 1 1 9;p3 2 9 9;");
        z.tell(3, 18);
        z.answer(3, 3);
        // 9 and 3 are taken, though only 8 and 3 are had
        due(z.year(1), 6);
        due(z.village(0, 3), 8);
        due(z.village(1, 3), 3);
        due(z.year(1), 0);
        due(z.village(0, 3), 14);
        due(z.village(1, 3), 3);
    }

    private static void newYear() {
        of("2", "PATIENCE is as told in the text;");
        Called x = Called.with("o20 1;v0;p0 0 1 9;p0 0 1 9;");
        x.tell(0, 99);
        x.answer(0, 0);
        x.answer(0, 1);
        due(x.told(0), 18);
        x.year(1);
        due(x.told(0), 20);
        x.year(60);
        due(x.told(0), 20);
        of("2", "YEARS (0 at first) are one more.");
        Called y = Called.with("o1 1;");
        due(y.told(5), 0);
        y.year(1);
        due(y.told(5), 1);
        y.year(60);
        due(y.told(5), 61);
        y.drift(2);
        due(y.told(5), 63);
    }

    private static void others() {
        of("2", "WIT of a PERSON becomes another; BEAR of a VILLAGE another.");
        Called x = Called.with("o1 1;v50;v60;p0 0 5 9;p0 0 6 9;");
        due(x.wit(0, 1), 5);
        due(x.wit(0, 9), 1);
        due(x.bear(1, 0), 60);
        due(x.bear(1, 99), 0);
        // a year changes neither
        x.year(1);
        due(x.person(0, 2), 9);
        due(x.person(1, 2), 6);
        due(x.village(0, 0), 50);
        due(x.village(1, 0), 99);
    }
}
