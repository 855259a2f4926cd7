/** Boundary cases of promises 5 to 7: what is told of all, of a person, of a village. */
final class LookEdges extends Edge {
    private static final String SEVEN = "o20 9;v99;v99;v99;v99;p3 3 9 6;p3 3 9 6;p3 3 9 6;p3 3 9 6;p3 3 9 6;p3 3 9 6;p3 3 9 6;";

    static void run() {
        oracle();
        counts();
        sets();
        tried();
        returns();
        toldOutside();
        person();
        personRefused();
        village();
        villageRefused();
    }

    private static void told(int what, int without, int least, int greatest, Called greatestHas) {
        due(new Called().told(what), without);
        due(Called.with("o1 1;").told(what), least);
        due(greatestHas.told(what), greatest);
    }

    private static void oracle() {
        of("Promise 5", "0 PATIENCE (0 without HILLS)");
        told(0, 0, 1, 20, Called.with(SEVEN));
        of("Promise 5", "1 STEP");
        told(1, 0, 1, 9, Called.with(SEVEN));
        of("Promise 5", "2 VILLAGES");
        told(2, 0, 0, 4, Called.with(SEVEN));
        of("Promise 5", "3 PERSONS");
        told(3, 0, 0, 7, Called.with(SEVEN));
    }

    private static void counts() {
        of("Promise 5", "4 letters of THE TEXT");
        Called full = new Called();
        full.feedAll("x".repeat(240));
        told(4, 0, 0, 240, full);
        of("Promise 5", "5 YEARS");
        Called old = Called.with("o1 1;");
        for (int i = 0; i < 151; i++) old.year(60);
        told(5, 0, 0, 9060, old);
        of("Promise 5", "6 OWED");
        Called x = Called.with(SEVEN);
        x.tell(0, 99);
        x.answer(0, 0);
        told(6, 0, 0, 99, x);
    }

    private static void sets() {
        of("Promise 5", "7 who is told a FATE above 0");
        Called x = Called.with(SEVEN);
        for (int p = 0; p < 7; p++) x.tell(p, p == 3 ? 0 : p == 4 ? 1 : 99);
        told(7, 0, 0, 127 - 8, x);
        x.tell(3, 1);
        due(x.told(7), 127);
        x.answer(6, 0);
        due(x.told(7), 63);
        of("Promise 5", "8 UNTOLD");
        told(8, 0, 0, 127, Called.with(SEVEN));
        due(x.told(8), 0);
        x.undo();
        x.undo();
        // person 3 was told 0 ahead of that
        due(x.told(8), 0);
        of("Promise 5", "9 who went up this YEAR");
        for (int p = 0; p < 7; p++) {
            x.tell(p, 1);
            x.answer(p, p);
        }
        told(9, 0, 0, 127, x);
        x.year(1);
        due(x.told(9), 0);
    }

    private static void tried() {
        Called x = Called.with(SEVEN);
        of("Promise 5", "10 BORNE");
        told(10, 1, 1, 1, x);
        x.tell(0, 99);
        x.answer(0, 0);
        due(x.told(10), 0);
        of("Promise 5", "11 MADE UP");
        // of this year nobody is untold in the only village that has some
        told(11, 0, 0, 2, x);
        x.bear(3, 0);
        due(x.told(11), NONE);
        of("Promise 5", "12 WORST");
        x.tell(6, 1);
        x.year(1);
        told(12, NONE, NONE, 6, x);
    }

    private static void returns() {
        Called x = Called.with(SEVEN);
        for (int i = 0; i < 6; i++) x.returned(99);
        for (int i = 0; i < 15; i++) x.write(6, 9999);
        for (int i = 0; i < 17; i++) x.wit(6, 9);
        of("Promise 5", "13 RETURNS");
        told(13, 0, 0, 6, x);
        of("Promise 5", "14 how many WENT (0 without HILLS)");
        told(14, 0, 1, 16, Called.with(SEVEN));
        due(x.told(14), 4);
        of("Promise 5", "15 which in each");
        Called all = Called.with(SEVEN);
        all.returned(396);
        told(15, NONE, 0, 15, all);
        of("Promise 5", "16 ASK");
        Called last = Called.with("o1 1;v1;v2;v4;v0;");
        last.returned(7);
        told(16, NONE, NONE, 3, last);
        of("Promise 5", "17 entries of THE BOOK");
        told(17, 0, 0, 15, x);
        of("Promise 5", "18 how many can be undone.");
        told(18, 0, 0, 16, x);
    }

    private static void toldOutside() {
        of("Promise 5", "OUTSIDE");
        for (int what : new int[] {-1, 19, LEAST, GREATEST}) {
            refused(RICH, x -> x.told(what), OUTSIDE);
            refused(NEW, x -> x.told(what), OUTSIDE);
        }
    }

    private static void person() {
        of("Promise 6", "Of a PERSON: what = 0 KIND, 1 VILLAGE, 2 WIT, 3 from whom it had it (NONE), 4 FATE, 5 HARM, 6 RID, 7 RING, 8 FIRST.");
        Called x = Called.with("o1 1;v9;v9;v9;v9;p0 0 1 9;p3 3 9 0;p1 1 4 2;p2 2 5 2;");
        x.tell(2, 99);
        x.year(1);
        x.tell(3, 99);
        int[][] due = {{0, 0, 1, NONE, 0, 0, 1, NONE, 0}, {3, 3, 9, 0, 0, 0, 18, NONE, 0},
            {1, 1, 4, 2, 0, 99, 4, 1, NONE}, {2, 2, 5, 2, 99, 0, 5, 1, NONE}};
        for (int p = 0; p < 4; p++) for (int what = 0; what <= 8; what++) due(x.person(p, what), due[p][what]);
        Called y = Called.with(SEVEN);
        int[] last = {3, 3, 9, 6, 0, 0, 99, 1, NONE};
        for (int what = 0; what <= 8; what++) due(y.person(6, what), last[what]);
    }

    private static void personRefused() {
        of("Promise 6", "UNKNOWN");
        for (int p : new int[] {-1, 5, LEAST, GREATEST}) refused(RICH, x -> x.person(p, 4), UNKNOWN);
        for (int p : new int[] {-1, 0, 6}) refused(NEW, x -> x.person(p, 4), UNKNOWN);
        refused(x -> x.read(SEVEN), x -> x.person(7, 0), UNKNOWN);
        of("Promise 6", "OUTSIDE");
        for (int what : new int[] {-1, 9, LEAST, GREATEST}) {
            refused(RICH, x -> x.person(0, what), OUTSIDE);
            refused(RICH, x -> x.person(4, what), OUTSIDE);
        }
    }

    private static void village() {
        of("Promise 7", "Of a VILLAGE: what = 0 BEAR, 1 who is of it, 2 HAD, 3 HARM of all its PERSONS.");
        Called x = Called.with("o1 1;v9;v0;v99;v7;p0 0 1 9;p3 3 9 9;p0 0 1 9;p0 2 1 9;");
        x.tell(0, 99);
        x.tell(2, 98);
        x.tell(1, 15);
        x.answer(1, 1);
        x.year(1);
        // 15 fell on village 2; now 12 are owed
        x.tell(1, 12);
        x.answer(1, 1);
        int[][] due = {{9, 5, 9, 197}, {0, 0, 0, 0}, {99, 8, 3, 15}, {7, 2, 0, 0}};
        for (int v = 0; v < 4; v++) for (int what = 0; what <= 3; what++) due(x.village(v, what), due[v][what]);
        due(Called.with(SEVEN).village(3, 1), 127);
    }

    private static void villageRefused() {
        of("Promise 7", "UNKNOWN");
        for (int v : new int[] {-1, 3, LEAST, GREATEST}) refused(RICH, x -> x.village(v, 0), UNKNOWN);
        for (int v : new int[] {-1, 0, 3}) refused(NEW, x -> x.village(v, 0), UNKNOWN);
        refused(x -> x.read(SEVEN), x -> x.village(4, 0), UNKNOWN);
        of("Promise 7", "OUTSIDE");
        for (int what : new int[] {-1, 4, LEAST, GREATEST}) {
            refused(RICH, x -> x.village(0, what), OUTSIDE);
            refused(RICH, x -> x.village(2, what), OUTSIDE);
        }
    }
}
