import java.util.function.Consumer;

/** Boundary cases of promises 15 to 26: what is tried, returns, the book, the seed, images. */
final class AskedEdges extends Edge {
    private static final int[] NO_PERSON = {-1, 5, 6, LEAST, GREATEST};
    private static final int[] NO_VILLAGE = {-1, 3, 4, LEAST, GREATEST};

    static void run() {
        down();
        best();
        match();
        shares();
        dry();
        returned();
        write();
        tear();
        judge();
        seed();
        keep();
        goBack();
        goBackRefused();
    }

    private static void down() {
        of("Promise 15", "DOWN (what = 0), TURNS (1) for a FATE of n (0 .. 99; 0: 0, 0).");
        Called x = Called.with("o20 9;v0;p2 0 1 9;p3 0 9 9;");
        for (int p = 0; p < 2; p++) for (int what = 0; what < 2; what++) due(x.down(p, 0, what), 0);
        due(x.down(0, 1, 0), 0);
        due(x.down(0, 1, 1), 1);
        due(x.down(0, 99, 0), 98);
        due(x.down(0, 99, 1), 20);
        // 77, 55, 33 and 9 more, 20, 0
        due(x.down(1, 99, 0), 0);
        due(x.down(1, 99, 1), 5);
        // nothing of the longer one is left over
        due(x.down(1, 0, 1), 0);
        due(x.down(1, 0, 0), 0);
        of("Promise 15", "UNKNOWN");
        for (int p : NO_PERSON) for (int what = 0; what < 2; what++) {
            int one = what;
            refused(RICH, y -> y.down(p, 0, one), UNKNOWN);
        }
        refused(NEW, y -> y.down(0, 0, 0), UNKNOWN);
        of("Promise 15", "OUTSIDE");
        for (int out : new int[] {-1, 100, LEAST, GREATEST}) {
            refused(RICH, y -> y.down(0, out, 0), OUTSIDE);
            refused(RICH, y -> y.down(0, out, 1), OUTSIDE);
        }
        for (int what : new int[] {-1, 2, LEAST, GREATEST}) {
            refused(RICH, y -> y.down(0, 0, what), OUTSIDE);
            refused(RICH, y -> y.down(0, 99, what), OUTSIDE);
        }
    }

    private static void best() {
        of("Promise 16", "BEST; NONE.");
        Called x = Called.with("o1 1;v0;p0 0 1 9;p0 0 2 9;");
        due(x.best(0), 0);
        due(x.best(1), 0);
        due(x.best(2), 1);
        due(x.best(99), 1);
        due(new Called().best(0), NONE);
        due(new Called().best(99), NONE);
        of("Promise 16", "OUTSIDE (n 0 .. 99).");
        for (int n : new int[] {-1, 100, LEAST, GREATEST}) {
            refused(RICH, y -> y.best(n), OUTSIDE);
            // also where nobody could go up
            refused(NEW, y -> y.best(n), OUTSIDE);
        }
    }

    private static void match() {
        of("Promise 17", "MATCH: p = NONE how much, else who goes up for a PERSON; NONE.");
        due(new Called().match(NONE), 0);
        Called x = Called.with("o1 1;v0;p0 0 1 9;p0 0 2 9;");
        due(x.match(NONE), 0);
        x.tell(1, 99);
        due(x.match(NONE), 97);
        due(x.match(1), 1);
        due(x.match(0), NONE);
        x.answer(1, 0);
        x.answer(1, 1);
        due(x.match(NONE), 96);
        due(x.match(1), NONE);
        of("Promise 17", "UNKNOWN.");
        for (int p : new int[] {-2, 5, 6, LEAST, GREATEST}) refused(RICH, y -> y.match(p), UNKNOWN);
        for (int p : new int[] {-2, 0, 6}) refused(NEW, y -> y.match(p), UNKNOWN);
    }

    private static void shares() {
        of("Promise 18", "SHARES: what a VILLAGE has; NONE.");
        Called x = Called.with("o1 1;v99;v0;v99;v99;");
        due(x.shares(0, 3), 0);
        due(x.shares(297, 0), 99);
        due(x.shares(297, 1), 0);
        due(x.shares(298, 1), NONE);
        due(x.shares(999, 3), NONE);
        x.bear(1, 1);
        due(x.shares(298, 1), 1);
        of("Promise 18", "UNKNOWN");
        for (int v : NO_VILLAGE) refused(RICH, y -> y.shares(0, v), UNKNOWN);
        refused(NEW, y -> y.shares(0, 0), UNKNOWN);
        of("Promise 18", "OUTSIDE");
        for (int v : new int[] {-1, 1000, LEAST, GREATEST}) refused(RICH, y -> y.shares(v, 0), OUTSIDE);
    }

    private static void dry() {
        of("Promise 19", "DRY.");
        Called x = new Called();
        due(x.dry(0, 50), 1000000000);
        due(x.dry(1, 50), 500000000);
        // 976562.5, and 1.8: cut
        due(x.dry(9, 50), 1953125);
        due(x.dry(10, 50), 976562);
        due(x.dry(29, 50), 1);
        due(x.dry(30, 50), 0);
        due(x.dry(60, 50), 0);
        due(Called.with(Check.HILLS).dry(2, 10), 10000000);
        of("Promise 19", "OUTSIDE.");
        for (int out : new int[] {-1, 61, LEAST, GREATEST}) refused(RICH, y -> y.dry(out, 50), OUTSIDE);
        for (int out : new int[] {-1, 101, LEAST, GREATEST}) refused(RICH, y -> y.dry(0, out), OUTSIDE);
        refused(NEW, y -> y.dry(61, 101), OUTSIDE);
    }

    private static void returned() {
        of("Promise 20", "A RETURN of v (0 .. 999), with BEAR as it is now: how many.");
        Called x = Called.with("o1 1;v5;v6;");
        due(x.returned(0), 1);
        due(x.told(14), 1);
        due(x.returned(999), 2);
        due(x.told(14), 0);
        x.tear();
        x.bear(0, 6);
        due(x.returned(6), 1);
        due(x.told(14), 2);
        x.bear(0, 0);
        due(x.told(14), 2);
        due(x.returned(0), 2);
        due(x.told(15), 1);
        of("Promise 20", "OUTSIDE");
        for (int v : new int[] {-1, 1000, LEAST, GREATEST}) refused(RICH, y -> y.returned(v), OUTSIDE);
        of("Promise 20", "NOT: no HILLS");
        refused(NEW, y -> y.returned(0), NOT);
        refused(NEW, y -> y.returned(999), NOT);
        refused(y -> {
            y.read(Check.HILLS);
            y.hills();
        }, y -> y.returned(0), NOT);
        // hills without a village are hills
        due(Called.with("o1 1;").returned(0), 1);
        of("Promise 20", "FULL (6).");
        Consumer<Called> six = y -> {
            y.read(Check.HILLS);
            for (int i = 1; i <= 6; i++) due(y.returned(20), i);
        };
        refused(six, y -> y.returned(20), FULL);
        refused(six, y -> y.returned(0), FULL);
    }

    private static void write() {
        of("Promise 21", "An entry behind THE BOOK (0 .. 9999): how many.");
        Called x = Called.with(Check.HILLS);
        due(x.write(0, 0), 1);
        due(x.judge(), NONE);
        due(x.write(4, 9999), 2);
        due(x.judge(), 1);
        due(x.write(4, 9999), 3);
        due(x.told(17), 3);
        of("Promise 21", "UNKNOWN");
        for (int p : NO_PERSON) refused(RICH, y -> y.write(p, 0), UNKNOWN);
        refused(NEW, y -> y.write(0, 0), UNKNOWN);
        of("Promise 21", "OUTSIDE");
        for (int harm : new int[] {-1, 10000, LEAST, GREATEST}) refused(RICH, y -> y.write(0, harm), OUTSIDE);
        of("Promise 21", "FULL (15).");
        Consumer<Called> fifteen = y -> {
            y.read(Check.HILLS);
            for (int i = 1; i <= 15; i++) due(y.write(0, 0), i);
        };
        refused(fifteen, y -> y.write(0, 0), FULL);
        refused(fifteen, y -> y.write(4, 9999), FULL);
    }

    private static void tear() {
        of("Promise 22", "No RETURNS, THE BOOK is empty: how much both had.");
        due(new Called().tear(), 0);
        Called x = Called.with(Check.HILLS);
        due(x.tear(), 0);
        x.returned(1);
        due(x.tear(), 1);
        x.write(0, 1);
        due(x.tear(), 1);
        for (int i = 0; i < 6; i++) x.returned(20);
        for (int i = 0; i < 15; i++) x.write(0, 5);
        due(x.tear(), 21);
        due(x.tear(), 0);
        due(x.told(13), 0);
        due(x.told(17), 0);
        due(x.told(14), 8);
        due(x.judge(), NONE);
        // there is room again
        due(x.returned(20), 1);
        due(x.write(0, 0), 1);
        due(x.told(18), 0);
    }

    private static void judge() {
        of("Promise 23", "FALSE; NONE.");
        due(new Called().judge(), NONE);
        Called x = Called.with(Check.HILLS);
        due(x.judge(), NONE);
        for (int i = 0; i < 14; i++) x.write(i % 5, 0);
        due(x.judge(), NONE);
        x.write(0, 1);
        due(x.judge(), 14);
        x.tell(3, 1);
        x.year(1);
        due(x.judge(), 3);
        x.undo();
        due(x.judge(), 14);
    }

    private static void seed() {
        of("Promise 24", "THE SEED becomes v (0 .. 2147483647): what it was.");
        Called x = new Called();
        due(x.seed(0), 0);
        due(x.seed(1), 0);
        due(x.seed(2147483647), 1);
        due(x.seed(2147483646), 2147483647);
        due(x.seed(0), 2147483646);
        due(x.seed(0), 0);
        of("Promise 24", "OUTSIDE.");
        for (int v : new int[] {-1, -2, LEAST, LEAST + 1}) {
            refused(RICH, y -> y.seed(v), OUTSIDE);
            refused(NEW, y -> y.seed(v), OUTSIDE);
        }
    }

    private static void keep() {
        of("Promise 25", "IMAGE i becomes what is so (nothing can be undone then): 1.");
        for (int i = 0; i <= 1; i++) {
            Called x = Called.with(Check.HILLS);
            x.tell(0, 5);
            x.tell(0, 6);
            due(x.keep(i), 1);
            due(x.told(18), 0);
            due(x.undo(), NOT);
            due(x.person(0, 4), 6);
            x.tell(0, 7);
            due(x.undo(), 0);
            // kept again, over what was kept
            x.tell(0, 8);
            due(x.keep(i), 1);
            x.tell(0, 9);
            x.goBack(i);
            due(x.person(0, 4), 8);
            due(x.goBack(1 - i), NOT);
        }
        // without hills, too
        Called none = new Called();
        due(none.keep(0), 1);
        due(none.keep(1), 1);
        due(none.goBack(1), 1);
        of("Promise 25", "UNKNOWN.");
        for (int i : new int[] {-1, 2, LEAST, GREATEST}) {
            refused(RICH, y -> y.keep(i), UNKNOWN);
            refused(NEW, y -> y.keep(i), UNKNOWN);
        }
    }

    private static void goBack() {
        of("Promise 26", "What is so becomes IMAGE i (nothing can be undone then): 1.");
        for (int i = 0; i <= 1; i++) {
            Called x = Called.with(Check.HILLS);
            x.tell(0, 5);
            x.keep(i);
            for (int times = 0; times < 2; times++) {
                x.tell(0, 6);
                x.year(1);
                due(x.goBack(i), 1);
                due(x.told(18), 0);
                due(x.undo(), NOT);
                due(x.person(0, 4), 5);
                due(x.told(5), 0);
            }
            // what is no part of an image stays
            x.feed('o');
            x.returned(5);
            x.write(0, 5);
            x.goBack(i);
            due(x.told(4), 1);
            due(x.told(13), 1);
            due(x.told(17), 1);
        }
        // an image of the last years, to go on from
        Called old = Called.with("o1 1;");
        old.keep(0);
        for (int i = 0; i < 151; i++) old.year(60);
        old.keep(1);
        due(old.year(1), FULL);
        old.goBack(0);
        due(old.year(1), 0);
        old.goBack(1);
        due(old.year(1), FULL);
    }

    private static void goBackRefused() {
        of("Promise 26", "UNKNOWN");
        for (int i : new int[] {-1, 2, LEAST, GREATEST}) {
            refused(RICH, y -> y.goBack(i), UNKNOWN);
            refused(NEW, y -> y.goBack(i), UNKNOWN);
        }
        of("Promise 26", "NOT: it was not kept.");
        for (int i = 0; i <= 1; i++) {
            int image = i;
            refused(NEW, y -> y.goBack(image), NOT);
            refused(y -> {
                y.read(Check.HILLS);
                y.tell(0, 5);
                y.keep(1 - image);
                y.tell(0, 6);
            }, y -> y.goBack(image), NOT);
            // hills() took it away
            refused(y -> {
                y.read(Check.HILLS);
                y.keep(image);
                y.read(Check.HILLS);
                y.tell(0, 6);
            }, y -> y.goBack(image), NOT);
        }
    }
}
