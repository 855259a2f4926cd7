import java.util.function.Consumer;

/** Boundary cases of section 3, as far as it is about returns, the book, draws, what is undone, and images. */
final class KeptEdges extends Edge {
    private static final long TWO_TO_31 = 1L << 31;

    static void run() {
        returns();
        went();
        ask();
        book();
        seed();
        draws();
        drawnTold();
        drawnAnswers();
        drawnWit();
        undone();
        undoneSixteen();
        undoneAll();
        images();
    }

    /** How many went, which in each, which to ask. */
    private static void went(Called x, int count, int inEach, int ask) {
        due(x.told(14), count);
        due(x.told(15), inEach);
        due(x.told(16), ask);
    }

    private static void returns() {
        of("3", "RETURN (6 at most):");
        Called x = Called.with("o1 1;v5;v7;");
        for (int i = 1; i <= 6; i++) due(x.returned(5), i);
        due(x.returned(5), FULL);
        due(x.told(13), 6);
        x.tear();
        due(x.returned(5), 1);
        of("3", "of an unknown SET of VILLAGES, each of which takes all it can BEAR, what was taken together was v (0 .. 999), with BEAR as it was when told.");
        Called y = Called.with("o1 1;v5;v7;");
        int[][] rows = {{0, 1, 0}, {1, 0, NONE}, {5, 1, 1}, {7, 1, 2}, {12, 1, 3}, {13, 0, NONE}, {999, 0, NONE}};
        for (int[] row : rows) {
            due(y.returned(row[0]), 1);
            due(y.told(14), row[1]);
            due(y.told(15), row[2]);
            y.tear();
        }
        due(y.returned(1000), OUTSIDE);
        due(y.returned(-1), OUTSIDE);
        // all that four can bear
        due(Called.with("o1 1;v99;v99;v99;v99;").returned(396), 1);
        y.returned(5);
        y.bear(0, 7);
        y.bear(1, 5);
        due(y.told(15), 1);
        // now it is the first by 7, too
        y.returned(7);
        went(y, 1, 1, NONE);
        y.undo();
        y.undo();
        went(y, 1, 1, NONE);
    }

    private static void went() {
        of("3", "WENT: SETS of VILLAGES by which all RETURNS are so: how many;");
        due(new Called().told(14), 0);
        due(Called.with("o1 1;").told(14), 1);
        due(Called.with("o1 1;v5;").told(14), 2);
        Called x = Called.with("o1 1;v5;v5;v5;v0;");
        due(x.told(14), 16);
        x.returned(5);
        due(x.told(14), 6);
        x.bear(0, 6);
        x.returned(5);
        due(x.told(14), 4);
        x.returned(4);
        due(x.told(14), 0);
        of("3", "VILLAGES in each (a SET; NONE: there is none).");
        due(x.told(15), NONE);
        due(new Called().told(15), NONE);
        due(Called.with("o1 1;").told(15), 0);
        due(Called.with("o1 1;v5;").told(15), 0);
        Called y = Called.with("o1 1;v1;v2;v4;v8;");
        y.returned(15);
        due(y.told(15), 15);
        y.tear();
        y.returned(8);
        due(y.told(15), 8);
        y.tear();
        y.returned(0);
        due(y.told(15), 0);
    }

    private static void ask() {
        of("3", "ASK: the VILLAGE by which, in it or not, these are told apart best: the greater part is least;");
        Called x = Called.with("o1 1;v1;v1;v1;v0;");
        x.returned(1);
        // each of the first parts 2 from 4, the last 3 from 3
        went(x, 6, 0, 3);
        Called y = Called.with("o1 1;v9;v0;v0;v0;");
        y.returned(0);
        // the first is in none of the eight
        went(y, 8, 0, 1);
        y.tear();
        y.returned(9);
        // it is in all of the eight
        went(y, 8, 1, 1);
        of("3", "of like ones the least; NONE: none parts them.");
        went(Called.with("o1 1;v5;v6;v7;v8;"), 16, 0, 0);
        Called z = Called.with("o1 1;v1;v1;v1;v1;");
        z.returned(3);
        went(z, 4, 0, 0);
        // one set alone, none at all, no villages, no hills
        z.returned(4);
        went(z, 0, NONE, NONE);
        z.tear();
        z.returned(4);
        went(z, 1, 15, NONE);
        went(Called.with("o1 1;"), 1, 0, NONE);
        went(new Called(), 0, NONE, NONE);
    }

    private static void book() {
        of("3", "THE BOOK (15 at most) tells HARM of PERSONS:");
        Called x = Called.with("o1 1;v0;p0 0 1 9;p0 0 1 9;");
        for (int i = 1; i <= 15; i++) due(x.write(i % 2, 0), i);
        due(x.write(0, 0), FULL);
        due(x.told(17), 15);
        of("3", "FALSE: the first that is otherwise now; NONE.");
        due(x.judge(), NONE);
        x.tell(0, 1);
        due(x.judge(), NONE);
        x.year(1);
        // the first entry is of 1, the second of 0
        due(x.judge(), 1);
        x.tell(1, 1);
        x.year(1);
        due(x.judge(), 0);
        x.tear();
        due(x.judge(), NONE);
        for (int i = 0; i < 14; i++) x.write(0, 1);
        x.write(0, 2);
        due(x.judge(), 14);
        due(new Called().judge(), NONE);
        // at the end of HARM
        Called y = Called.with("o1 1;v0;p0 0 1 9;");
        y.write(0, 9999);
        for (int i = 0; i < 101; i++) {
            due(y.judge(), 0);
            y.tell(0, 99);
            y.year(1);
        }
        due(y.judge(), NONE);
    }

    private static int seedBehind(int seed, int draws) {
        long s = seed;
        for (int i = 0; i < draws; i++) s = Math.floorMod(s * 1103515245L + 12345L, TWO_TO_31);
        return (int) s;
    }

    /** The least seed of which the three draws are these. */
    private static int seedFor(int deed, int persons, int p, int last) {
        for (int seed = 0; seed < 10000000; seed++) {
            if (seedBehind(seed, 1) / 65536 % 4 != deed) continue;
            if (seedBehind(seed, 2) / 65536 % persons != p) continue;
            if (seedBehind(seed, 3) / 65536 % 100 == last) return seed;
        }
        throw new IllegalStateException("no such seed");
    }

    private static void seed() {
        of("3", "BY DRAWS: THE SEED (0 at first: each DRAW it becomes it times 1103515245 and 12345, left over by 2 to the 31;");
        due(new Called().seed(1), 0);
        Called x = Called.with(Check.HILLS);
        x.drift(1);
        // 12345, 1406932606, 654583775
        due(x.seed(GREATEST), 654583775);
        x.drift(1);
        // 1043980748, and two more
        due(x.seed(0), seedBehind(1043980748, 2));
        x.drift(60);
        due(x.seed(0), seedBehind(0, 180));
    }

    private static void draws() {
        of("3", "the DRAW of n is it / 65536, left over by n):");
        // 0 by 4; 21468 by 5 is 3, by 7 is 6; 9988 by 100 is 88
        Called x = Called.with(Check.HILLS);
        x.drift(1);
        for (int p = 0; p < 5; p++) due(x.person(p, 5), p == 3 ? 88 : 0);
        Called y = Called.with("o1 1;v0;p0 0 1 9;p0 0 1 9;p0 0 1 9;p0 0 1 9;p0 0 1 9;p0 0 1 9;p0 0 1 9;");
        y.drift(1);
        for (int p = 0; p < 7; p++) due(y.person(p, 5), p == 6 ? 88 : 0);
        Called z = Called.with("o1 1;v0;p0 0 1 9;");
        z.drift(1);
        due(z.person(0, 5), 88);
        of("3", "n YEARS; ahead of each, if there are PERSONS, a DRAW of 4, of PERSONS, of 100:");
        Called none = Called.with("o1 1;v5;");
        none.seed(9);
        due(none.drift(60), 0);
        due(none.told(5), 60);
        due(none.seed(0), 9);
        Called one = Called.with("o1 1;v5;p0 0 1 9;");
        one.seed(9);
        one.drift(1);
        due(one.told(5), 1);
        due(one.seed(9), seedBehind(9, 3));
        one.drift(60);
        due(one.told(5), 61);
        due(one.seed(9), seedBehind(9, 180));
    }

    private static void drawnTold() {
        of("3", "on 0, 1 that one is TOLD the last;");
        for (int deed = 0; deed <= 1; deed++) {
            for (int last : new int[] {0, 1, 99}) {
                Called x = Called.with("o1 1;v5;v5;v0;p0 0 1 9;p0 1 1 9;p3 2 9 9;");
                x.tell(2, 10);
                x.answer(2, 2);
                x.seed(seedFor(deed, 3, 1, last));
                // 10 are owed; who is told, by 0 too, takes nothing of it
                due(x.drift(1), 5);
                due(x.person(0, 5), 5);
                due(x.person(1, 5), last);
            }
        }
        // told anew: what it had been told is forgotten
        Called y = Called.with("o1 1;v0;p0 0 1 9;");
        y.tell(0, 99);
        y.seed(seedFor(1, 1, 0, 7));
        y.drift(1);
        due(y.person(0, 5), 7);
    }

    private static void drawnAnswers() {
        of("3", "on 2 it ANSWERS BACK by itself, if its FATE is above 0 and it can go up;");
        int seed = seedFor(2, 2, 0, 50);
        Called x = Called.with("o1 1;v0;p0 0 3 9;p0 0 9 9;");
        x.seed(seed);
        // a fate of 0
        due(x.drift(1), 0);
        x.tell(0, 1);
        x.seed(seed);
        due(x.drift(1), 1);
        due(x.person(0, 5), 0);
        x.tell(0, 50);
        x.seed(seed);
        due(x.drift(1), 4);
        due(x.person(0, 5), 47);
        // it went up already
        x.tell(0, 50);
        x.tell(1, 9);
        x.answer(1, 0);
        x.seed(seed);
        due(x.drift(1), 7);
        due(x.person(0, 5), 97);
        // that another went up for it is no hindrance
        x.tell(0, 50);
        x.answer(0, 1);
        x.seed(seed);
        due(x.drift(1), 7 + 9 + 3);
        due(x.person(0, 5), 97 + 38);
        // in the years behind there is no fate to answer back
        Called y = Called.with("o1 1;v0;p0 0 3 9;");
        y.seed(seedFor(2, 1, 0, 0));
        y.tell(0, 50);
        y.year(1);
        due(y.drift(1), 0);
    }

    private static void drawnWit() {
        of("3", "on 3 its WIT is the last left over by 9, and 1.");
        int[][] due = {{0, 1}, {7, 8}, {8, 9}, {9, 1}, {17, 9}, {98, 9}, {99, 1}};
        for (int[] row : due) {
            Called x = Called.with("o1 1;v0;p0 0 5 9;p0 0 5 9;");
            x.seed(seedFor(3, 2, 1, row[0]));
            x.tell(1, 20);
            due(x.drift(1), 0);
            due(x.person(1, 2), row[1]);
            due(x.person(0, 2), 5);
            due(x.person(1, 5), 20);
        }
    }

    private static void undone() {
        of("3", "UNDONE: the latest of tell(), answer(), year(), wit(), bear(), drift() that was not refused");
        Called x = Called.with(Check.HILLS);
        x.tell(0, 60);
        due(x.told(18), 1);
        x.answer(0, 1);
        due(x.told(18), 2);
        x.year(60);
        due(x.told(18), 3);
        x.wit(0, 5);
        due(x.told(18), 4);
        x.bear(0, 20);
        due(x.told(18), 5);
        x.drift(60);
        due(x.told(18), 6);
        // what is refused is not undone, nor any other call
        x.tell(0, 100);
        x.answer(0, 0);
        x.year(0);
        x.wit(0, 0);
        x.bear(0, 100);
        x.drift(0);
        x.feed('o');
        x.seed(9);
        x.returned(5);
        x.write(0, 5);
        x.down(0, 5, 0);
        x.match(0);
        due(x.told(18), 6);
        for (int more = 5; more >= 0; more--) due(x.undo(), more);
        due(x.undo(), NOT);
        due(x.told(4), 1);
        due(x.told(13), 1);
        due(x.told(17), 1);
    }

    private static void undoneSixteen() {
        of("3", "(16 at most are kept, the oldest are lost):");
        for (int deeds : new int[] {15, 16, 17, 18, 40}) {
            Called x = Called.with("o1 1;v0;p0 0 1 9;");
            for (int i = 1; i <= deeds; i++) {
                x.tell(0, i);
                due(x.told(18), Math.min(i, 16));
            }
            int kept = Math.min(deeds, 16);
            for (int i = 1; i <= kept; i++) {
                due(x.undo(), kept - i);
                due(x.person(0, 4), deeds - i);
            }
            due(x.undo(), NOT);
            due(x.person(0, 4), deeds - kept);
        }
        // filled, emptied by half, and filled again
        Called y = Called.with("o1 1;v0;p0 0 1 9;");
        for (int i = 1; i <= 20; i++) y.tell(0, i);
        for (int i = 0; i < 8; i++) y.undo();
        for (int i = 51; i <= 61; i++) y.tell(0, i);
        due(y.told(18), 16);
        for (int i = 60; i >= 51; i--) {
            y.undo();
            due(y.person(0, 4), i);
        }
        for (int i = 12; i >= 7; i--) {
            y.undo();
            due(y.person(0, 4), i);
        }
        due(y.undo(), NOT);
    }

    /** The deed and its undoing leave all as it was, the seed being set back by hand. */
    private static void undoneBack(Consumer<Called> deed) {
        unchanged(RICH, x -> {
            int seed = x.seed(0);
            x.seed(seed);
            deed.accept(x);
            x.seed(seed);
            return x.undo();
        });
    }

    private static void undoneAll() {
        of("3", "all of section 2 is as ahead of it;");
        undoneBack(x -> x.tell(3, 0));
        undoneBack(x -> x.tell(0, 99));
        undoneBack(x -> x.answer(3, 3));
        undoneBack(x -> x.year(1));
        undoneBack(x -> x.year(60));
        undoneBack(x -> x.wit(2, 1));
        undoneBack(x -> x.bear(1, 99));
        undoneBack(x -> x.drift(1));
        undoneBack(x -> x.drift(60));
        of("3", "THE SEED stays.");
        Called x = Called.with(Check.HILLS);
        x.drift(1);
        x.undo();
        due(x.seed(5), 654583775);
        x.tell(0, 5);
        x.seed(6);
        x.undo();
        due(x.seed(0), 6);
    }

    private static void images() {
        of("3", "IMAGES 0, 1 keep all of section 2, THE SEED.");
        for (int i = 0; i <= 1; i++) {
            int image = i;
            Consumer<Called> kept = x -> {
                RICH.accept(x);
                x.seed(GREATEST);
                x.keep(image);
            };
            unchanged(kept, x -> {
                x.drift(7);
                x.tell(0, 99);
                x.answer(0, 0);
                x.wit(1, 1);
                x.bear(2, 0);
                x.seed(1);
                return x.goBack(image);
            });
        }
        // the two are apart, and each is there again and again
        Called x = Called.with(Check.HILLS);
        x.tell(0, 10);
        x.keep(0);
        x.tell(0, 20);
        x.keep(1);
        x.tell(0, 30);
        for (int times = 0; times < 3; times++) {
            x.goBack(0);
            due(x.person(0, 4), 10);
            x.goBack(1);
            due(x.person(0, 4), 20);
            x.tell(0, 40);
        }
        x.keep(0);
        x.goBack(1);
        due(x.person(0, 4), 20);
        x.goBack(0);
        due(x.person(0, 4), 40);
    }
}
