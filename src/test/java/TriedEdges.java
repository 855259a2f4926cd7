/** Boundary cases of section 3, as far as it is about what is only tried. */
final class TriedEdges extends Edge {
    static void run() {
        nothingChanges();
        down();
        rid();
        best();
        matchWhom();
        matchWho();
        matchLeast();
        matchOfLikeOnes();
        had();
        shares();
        madeUp();
        ring();
        worst();
        dry();
    }

    private static void nothingChanges() {
        of("3", "TRIED from now; nothing changes by it.");
        unchanged(RICH, x -> x.down(0, 99, 0));
        unchanged(RICH, x -> x.down(0, 99, 1));
        unchanged(RICH, x -> x.person(0, 6));
        unchanged(RICH, x -> x.best(99));
        unchanged(RICH, x -> x.match(NONE));
        unchanged(RICH, x -> x.match(3));
        unchanged(RICH, x -> x.village(0, 2));
        unchanged(RICH, x -> x.told(10));
        unchanged(RICH, x -> x.told(11));
        unchanged(RICH, x -> x.shares(40, 0));
        unchanged(RICH, x -> x.dry(60, 99));
        unchanged(RICH, x -> x.judge());
        unchanged(NEW, x -> x.best(99));
        unchanged(NEW, x -> x.match(NONE));
    }

    private static void down() {
        of("3", "DOWN: what is left of a FATE of n by the BARGAIN of a PERSON now.");
        Called x = Called.with("o2 1;v0;p0 0 9 9;p0 0 1 9;");
        due(x.down(0, 99, 0), 81);
        due(x.down(0, 19, 0), 1);
        due(x.down(0, 18, 0), 0);
        due(x.down(0, 0, 0), 0);
        x.tell(1, 50);
        x.answer(1, 0);
        // one who went up is tried all the same, with the patience of now
        due(x.down(0, 99, 0), 90);
        of("3", "TURNS: how many turns of one there are.");
        Called y = Called.with("o20 1;v0;p0 0 9 9;");
        due(y.down(0, 0, 1), 0);
        due(y.down(0, 1, 1), 1);
        due(y.down(0, 9, 1), 1);
        due(y.down(0, 10, 1), 2);
        Called z = Called.with("o20 9;v0;p2 0 1 9;");
        due(z.down(0, 99, 1), 20);
        due(z.down(0, 1, 1), 1);
        // the second turn of a shy one gets nothing off, but is a turn
        due(z.down(0, 2, 1), 3);
    }

    private static void rid() {
        of("3", "RID: the greatest n (0 .. 99) of which nothing is left.");
        due(Called.with("o1 1;v0;p0 0 1 9;").person(0, 6), 1);
        due(Called.with("o1 9;v0;p2 0 9 9;").person(0, 6), 9);
        // five turns of 21, and 6 more or 7 more between them: 99, 98
        Called x = Called.with("o5 6;v0;p3 0 9 9;");
        due(x.person(0, 6), 99);
        due(x.down(0, 99, 0), 0);
        Called y = Called.with("o5 7;v0;p3 0 9 9;");
        due(y.person(0, 6), 98);
        due(y.down(0, 98, 0), 0);
        due(y.down(0, 99, 0), 1);
        // twenty turns would get far more off
        due(Called.with("o20 1;v0;p3 0 9 9;").person(0, 6), 99);
        // an oracle that adds more than is got off: only the first three turns tell
        due(Called.with("o20 9;v0;p0 0 1 9;").person(0, 6), 3);
    }

    private static void best() {
        of("3", "BEST: the PERSON by whom least is left of a FATE of n (who did not go up this YEAR); of like ones the least; NONE.");
        Called x = Called.with("o1 1;v0;p0 0 1 9;p0 0 5 9;p0 0 5 9;p3 0 5 9;");
        due(x.best(99), 3);
        due(x.best(6), 3);
        // 5 are got off by the last three, 1 by all
        due(x.best(5), 1);
        due(x.best(1), 0);
        due(x.best(0), 0);
        x.tell(0, 50);
        x.answer(0, 3);
        due(x.best(99), 1);
        x.answer(0, 1);
        due(x.best(99), 2);
        x.answer(0, 2);
        // 98 are left by the only one, and that is least
        due(x.best(99), 0);
        x.answer(0, 0);
        due(x.best(99), NONE);
        due(x.best(0), NONE);
        x.year(1);
        due(x.best(99), 3);
        due(new Called().best(5), NONE);
        due(Called.with("o1 1;v0;").best(5), NONE);
        // an oracle that makes 99 of it: what is left is 98 by each
        due(Called.with("o4 9;v0;p0 0 1 9;p0 0 1 9;").best(99), 0);
    }

    private static void matchWhom() {
        of("3", "MATCH: who goes up for whom of those told a FATE above 0");
        Called x = Called.with("o1 1;v0;p0 0 1 9;p0 0 9 9;");
        due(x.match(NONE), 0);
        due(x.match(0), NONE);
        x.tell(0, 0);
        due(x.match(0), NONE);
        x.tell(0, 1);
        due(x.match(0), 0);
        due(x.match(1), NONE);
        due(x.match(NONE), 0);
        x.tell(0, 2);
        due(x.match(0), 1);
        of("3", "(each one goes up for one at most");
        x.tell(0, 9);
        x.tell(1, 9);
        due(x.match(NONE), 8);
        due(x.match(0), 0);
        due(x.match(1), 1);
    }

    private static void matchWho() {
        of("3", "who did not go up this YEAR; PATIENCE as now for each)");
        Called x = Called.with("o3 1;v0;p0 0 2 9;p0 0 2 9;p0 0 9 9;");
        x.tell(0, 50);
        x.tell(1, 50);
        // 6 off by a plain one of 2, 27 off by one of 9; no bargain makes patience less for the next
        due(x.match(NONE), 44 + 23);
        x.answer(0, 2);
        // 23 are left; two turns for each now
        due(x.match(NONE), 19 + 46);
        due(x.match(0), 0);
        due(x.match(1), 1);
        x.answer(0, 0);
        x.answer(1, 1);
        due(x.match(NONE), 19 + 48);
        due(x.match(0), NONE);
        due(x.match(1), NONE);
        x.year(1);
        x.tell(1, 50);
        due(x.match(1), 2);
    }

    private static void matchLeast() {
        of("3", "so that least is left of all these FATES together");
        // the old woman would leave 0 of 10, but is needed for 20
        Called x = Called.with("o1 1;v0;p0 0 9 9;p3 0 9 9;");
        x.tell(0, 10);
        x.tell(1, 20);
        due(x.match(NONE), 3);
        due(x.match(0), 0);
        due(x.match(1), 1);
        of("3", "(one for whom nobody goes up keeps it): how much");
        Called y = Called.with("o1 1;v0;p0 0 9 9;p0 0 9 9;p0 0 9 9;");
        y.tell(0, 50);
        y.answer(0, 0);
        y.answer(0, 1);
        y.tell(1, 60);
        y.tell(2, 70);
        due(y.match(NONE), 32 + 60 + 70 - 9);
        y.answer(2, 2);
        due(y.match(NONE), 32 + 60 + 61);
        Called all = Called.with("o1 1;v0;p0 0 1 9;p0 0 1 9;p0 0 1 9;p0 0 1 9;p0 0 1 9;p0 0 1 9;p0 0 1 9;");
        for (int p = 0; p < 7; p++) all.tell(p, 99);
        due(all.match(NONE), 7 * 98);
        // one who would only make it more had better stay at home
        Called z = Called.with("o4 9;v0;p0 0 1 9;");
        z.tell(0, 40);
        due(z.match(NONE), 40);
        due(z.match(0), NONE);
        Called worse = Called.with("o4 9;v0;p0 0 1 9;p0 0 1 9;p0 0 1 9;p0 0 1 9;p0 0 1 9;p0 0 1 9;p0 0 1 9;");
        for (int p = 0; p < 7; p++) worse.tell(p, 40);
        due(worse.match(NONE), 7 * 40);
        for (int p = 0; p < 7; p++) due(worse.match(p), NONE);
    }

    private static void matchOfLikeOnes() {
        of("3", "the PERSON for a PERSON; of like ones the first (PERSON by PERSON the lesser, nobody last); NONE.");
        Called x = Called.with("o1 1;v0;p0 0 9 9;p0 0 9 9;p0 0 9 9;");
        x.tell(2, 50);
        due(x.match(2), 0);
        x.tell(1, 50);
        due(x.match(1), 0);
        due(x.match(2), 1);
        x.tell(0, 50);
        for (int p = 0; p < 3; p++) due(x.match(p), p);
        x.answer(0, 0);
        // two are left for three who are alike: the last has nobody
        due(x.match(0), 1);
        due(x.match(1), 2);
        due(x.match(2), NONE);
        // 40 becomes 40: one who gets nothing off is still ahead of nobody
        Called y = Called.with("o4 4;v0;p0 0 1 9;p0 0 1 9;");
        y.tell(1, 40);
        due(y.match(NONE), 40);
        due(y.match(1), 0);
        y.tell(0, 40);
        due(y.match(0), 0);
        due(y.match(1), 1);
        due(Called.with("o1 1;v0;p0 0 1 9;").match(0), NONE);
    }

    private static void had() {
        of("3", "HAD of a VILLAGE: what would fall on it, were the YEAR over now.");
        Called x = Called.with("o2 1;v4;v5;v9;v0;p0 0 1 9;p0 1 1 9;p0 2 1 9;p3 3 9 9;");
        for (int v = 0; v < 4; v++) due(x.village(v, 2), 0);
        x.tell(3, 10);
        x.answer(3, 3);
        int[] had = {4, 5, 1, 0};
        for (int v = 0; v < 4; v++) due(x.village(v, 2), had[v]);
        x.tell(1, 0);
        int[] then = {4, 0, 6, 0};
        for (int v = 0; v < 4; v++) due(x.village(v, 2), then[v]);
        due(x.year(1), 0);
        for (int v = 0; v < 3; v++) due(x.village(v, 3), then[v]);
        of("3", "BORNE: whether (1, 0) nothing would be OWED then.");
        due(new Called().told(10), 1);
        Called y = Called.with("o1 1;v4;v5;v0;p0 0 1 9;p0 1 1 9;p3 2 9 9;");
        due(y.told(10), 1);
        y.tell(2, 9);
        y.answer(2, 2);
        due(y.told(10), 1);
        y.tell(2, 1);
        y.answer(2, 0);
        due(y.told(10), 0);
        y.bear(1, 6);
        due(y.told(10), 1);
        y.tell(1, 0);
        due(y.told(10), 0);
        y.year(1);
        due(y.told(10), 1);
    }

    private static void shares() {
        of("3", "SHARES of v (0 .. 999) over VILLAGES, each no more than it can BEAR,");
        Called x = Called.with("o1 1;v99;v99;v99;v99;");
        for (int v = 0; v < 4; v++) due(x.shares(0, v), 0);
        for (int v = 0; v < 4; v++) due(x.shares(396, v), 99);
        due(x.shares(999, 0), NONE);
        due(x.shares(1000, 0), OUTSIDE);
        due(x.shares(-1, 0), OUTSIDE);
        Called y = Called.with("o1 1;v0;v3;");
        due(y.shares(3, 0), 0);
        due(y.shares(3, 1), 3);
        of("3", "such that the greatest is least, of like ones the first VILLAGES have as little as can be: what a VILLAGE has;");
        Called z = Called.with("o1 1;v9;v1;v9;v9;");
        int[][] due = {{1, 0, 0, 0, 1}, {2, 0, 0, 1, 1}, {3, 0, 1, 1, 1}, {4, 1, 1, 1, 1}, {5, 0, 1, 2, 2}, {6, 1, 1, 2, 2},
            {7, 2, 1, 2, 2}, {8, 1, 1, 3, 3}, {27, 8, 1, 9, 9}, {28, 9, 1, 9, 9}};
        for (int[] row : due) for (int v = 0; v < 4; v++) due(z.shares(row[0], v), row[v + 1]);
        of("3", "NONE: they cannot.");
        for (int v = 0; v < 4; v++) due(z.shares(29, v), NONE);
        due(x.shares(397, 3), NONE);
        Called none = Called.with("o1 1;v0;");
        due(none.shares(0, 0), 0);
        due(none.shares(1, 0), NONE);
    }

    private static void madeUp() {
        of("3", "MADE UP: behind how many YEARS (0 .. 60) nothing is OWED, if nobody is told more; NONE.");
        due(new Called().told(11), 0);
        Called x = Called.with("o3 1;v1;v0;p0 0 9 9;p3 1 9 9;p0 1 9 9;");
        due(x.told(11), 0);
        x.tell(1, 1);
        x.answer(1, 2);
        due(x.told(11), 1);
        x.year(1);
        due(x.told(11), 0);
        x.tell(1, 54);
        x.answer(1, 1);
        due(x.told(11), 54);
        x.tell(1, 6);
        x.answer(1, 0);
        due(x.told(6), 60);
        due(x.told(11), 60);
        // who was told takes nothing in this year, so there would be 61
        x.tell(0, 0);
        due(x.told(11), NONE);
        x.undo();
        due(x.told(11), 60);
        x.tell(1, 1);
        x.answer(1, 2);
        due(x.told(6), 61);
        due(x.told(11), NONE);
        x.year(1);
        due(x.told(11), 60);
        x.bear(0, 0);
        due(x.told(11), NONE);
        x.bear(0, 60);
        due(x.told(11), 1);
        x.bear(0, 59);
        due(x.told(11), 2);
    }

    private static void ring() {
        of("3", "RING of a PERSON: from it to the one from whom it had it, and so on: how many PERSONS there are in the ring that one comes into;");
        Called all = Called.with("o1 1;v0;p0 0 1 1;p0 0 1 2;p0 0 1 3;p0 0 1 4;p0 0 1 5;p0 0 1 6;p0 0 1 0;");
        for (int p = 0; p < 7; p++) due(all.person(p, 7), 7);
        due(Called.with("o1 1;v0;p0 0 1 0;").person(0, 7), 1);
        // a way of five into a ring of two
        Called way = Called.with("o1 1;v0;p0 0 1 1;p0 0 1 2;p0 0 1 3;p0 0 1 4;p0 0 1 5;p0 0 1 6;p0 0 1 5;");
        for (int p = 0; p < 7; p++) due(way.person(p, 7), 2);
        // a way of six to one that had it from itself
        Called self = Called.with("o1 1;v0;p0 0 1 1;p0 0 1 2;p0 0 1 3;p0 0 1 4;p0 0 1 5;p0 0 1 6;p0 0 1 6;");
        for (int p = 0; p < 7; p++) due(self.person(p, 7), 1);
        of("3", "NONE: it ends with one who had it from nobody.");
        Called open = Called.with("o1 1;v0;p0 0 1 1;p0 0 1 2;p0 0 1 3;p0 0 1 4;p0 0 1 5;p0 0 1 6;p0 0 1 9;");
        for (int p = 0; p < 7; p++) due(open.person(p, 7), NONE);
        due(Called.with("o1 1;v0;p0 0 1 1;").person(0, 7), NONE);
        of("3", "FIRST of a PERSON: that one;");
        for (int p = 0; p < 7; p++) due(open.person(p, 8), 6);
        due(Called.with("o1 1;v0;p0 0 1 9;").person(0, 8), 0);
        due(Called.with("o1 1;v0;p0 0 1 1;").person(0, 8), 0);
        of("3", "NONE: it goes round.");
        for (int p = 0; p < 7; p++) due(all.person(p, 8), NONE);
        for (int p = 0; p < 7; p++) due(way.person(p, 8), NONE);
        due(Called.with("o1 1;v0;p0 0 1 0;").person(0, 8), NONE);
    }

    private static void worst() {
        of("3", "WORST: the PERSON with most HARM; of like ones the least; NONE.");
        due(new Called().told(12), NONE);
        due(Called.with("o1 1;v0;").told(12), NONE);
        Called x = Called.with("o1 1;v0;p0 0 1 9;p0 0 1 9;p0 0 1 9;");
        due(x.told(12), 0);
        x.tell(2, 1);
        due(x.told(12), 0);
        x.year(1);
        due(x.told(12), 2);
        x.tell(1, 1);
        x.year(1);
        due(x.told(12), 1);
        x.tell(2, 1);
        x.year(1);
        due(x.told(12), 2);
    }

    private static void dry() {
        of("3", "DRY: odds of n dry years (0 .. 60), each by q of a hundred (0 .. 100): a BILLION times q / 100 each (cut).");
        Called x = new Called();
        due(x.dry(0, 0), 1000000000);
        due(x.dry(0, 100), 1000000000);
        due(x.dry(1, 0), 0);
        due(x.dry(60, 0), 0);
        due(x.dry(60, 100), 1000000000);
        due(x.dry(1, 1), 10000000);
        due(x.dry(1, 99), 990000000);
        due(x.dry(4, 99), 960596010);
        // 950990049.9, cut; of the cut one 941480148.51, where the whole one would be 941480149.4
        due(x.dry(5, 99), 950990049);
        due(x.dry(6, 99), 941480148);
        due(x.dry(61, 50), OUTSIDE);
        due(x.dry(-1, 50), OUTSIDE);
        due(x.dry(60, 101), OUTSIDE);
        due(x.dry(60, -1), OUTSIDE);
    }
}
