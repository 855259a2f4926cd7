/** Promises 15 to 19: what is only tried. */
public final class TriedTest {
    public static void main(String[] args) {
        down();
        downByPatience();
        best();
        match();
        matchOfLikeOnes();
        matchWithNobody();
        shares();
        dry();
        nothingChanges();
        Check.end();
    }

    private static void down() {
        Called x = Check.withHills();
        // plain, stubborn, shy, old woman, and plain, who is told 99 again at the third turn
        int[] left = {73, 76, 76, 55, 96};
        for (int p = 0; p < 5; p++) {
            Check.due("down(" + p + ", 99, 0)", x.down(p, 99, 0), left[p]);
            Check.due("down(" + p + ", 99, 1)", x.down(p, 99, 1), 6);
            Check.due("down(" + p + ", 0, 0)", x.down(p, 0, 0), 0);
            Check.due("down(" + p + ", 0, 1)", x.down(p, 0, 1), 0);
        }
        Check.due("it ends at 0 ahead of the oracle's turn", x.down(4, 3, 0), 0);
        Check.due("in three turns", x.down(4, 3, 1), 3);
        Check.due("one more is not got off", x.down(4, 4, 0), 2);
        Check.due("in six turns", x.down(4, 4, 1), 6);
        Check.due("a shy one in one turn", x.down(2, 9, 1), 1);
        Check.due("a shy one in three turns", x.down(2, 18, 1), 3);
        Check.due("rid of 3", x.person(4, 6), 3);
        for (int p = 0; p < 5; p++) {
            Called y = Check.withHills();
            int rid = y.person(p, 6);
            for (int n = 0; n <= 99; n++) Check.due("rid of " + n + " by " + p, y.down(p, n, 0) == 0 ? 1 : 0, n <= rid ? 1 : 0);
        }
        Called old = Check.with("o20 1;v1;p3 0 9 9;");
        Check.due("rid of all", old.person(0, 6), 99);
        Check.due("down(5, 0, 0)", x.down(5, 0, 0), Check.UNKNOWN);
        Check.due("down(-1, 100, 2)", x.down(-1, 100, 2), Check.UNKNOWN);
        Check.due("down(0, 100, 0)", x.down(0, 100, 0), Check.OUTSIDE);
        Check.due("down(0, -1, 0)", x.down(0, -1, 0), Check.OUTSIDE);
        Check.due("down(0, 5, 2)", x.down(0, 5, 2), Check.OUTSIDE);
        Check.due("down(0, 0, -1)", x.down(0, 0, -1), Check.OUTSIDE);
    }

    private static void downByPatience() {
        Called x = Check.with("o3 9;v1;p0 0 2 9;p0 0 2 9;p0 0 2 9;");
        Check.due("at the last turn the oracle is silent", x.down(0, 50, 0), 44);
        Check.due("three turns", x.down(0, 50, 1), 3);
        x.tell(0, 50);
        x.answer(0, 1);
        Check.due("patience as it is now", x.down(0, 50, 0), 46);
        Check.due("who went up can be tried", x.down(1, 50, 1), 2);
        Check.due("rid as it is now", x.person(1, 6), 4);
    }

    private static void best() {
        Called x = Check.withHills();
        Check.due("best(99)", x.best(99), 3);
        Check.due("best(5): 0, 2 and 3 are alike", x.best(5), 0);
        Check.due("best(0)", x.best(0), 0);
        Check.due("best(-1)", x.best(-1), Check.OUTSIDE);
        Check.due("best(100)", x.best(100), Check.OUTSIDE);
        x.tell(0, 99);
        x.answer(0, 3);
        Check.due("best of the others", x.best(99), 2);
        x.answer(0, 0);
        x.answer(0, 1);
        x.answer(0, 2);
        Check.due("best of one", x.best(5), 4);
        x.answer(0, 4);
        Check.due("all went up", x.best(5), Check.NONE);
        Check.due("all went up, outside", x.best(100), Check.OUTSIDE);
        x = Check.with("o1 1;v1;p0 0 1 9;p2 0 2 9;");
        Check.due("best where 98 and 97 are left", x.best(99), 1);
        x.tell(0, 5);
        x.answer(0, 1);
        Check.due("best where 98 is left", x.best(99), 0);
        x = Check.with("o1 1;v1;");
        Check.due("best of nobody", x.best(5), Check.NONE);
    }

    private static void match() {
        Called x = Check.withHills();
        Check.due("match(NONE) of nothing", x.match(-1), 0);
        Check.due("match(0) of nothing", x.match(0), Check.NONE);
        Check.due("match(5)", x.match(5), Check.UNKNOWN);
        Check.due("match(-2)", x.match(-2), Check.UNKNOWN);
        x.tell(1, 9);
        x.tell(4, 44);
        // the old woman is needed for 44; of those who get 9 off the first is 0
        Check.due("match(NONE)", x.match(-1), 0);
        Check.due("match(1)", x.match(1), 0);
        Check.due("match(4)", x.match(4), 3);
        Check.due("match(0), told nothing", x.match(0), Check.NONE);
        x.answer(1, 3);
        Check.due("a fate of 0 is matched no more", x.match(1), Check.NONE);
        // five turns now: 0 leaves 23, 1 leaves 28, 2 leaves 21
        Check.due("match(4) by another", x.match(4), 2);
        Check.due("match(NONE) then", x.match(-1), 21);
    }

    private static void matchOfLikeOnes() {
        Called x = Check.with("o2 1;v1;p0 0 5 9;p0 0 5 9;p0 0 5 9;p0 0 5 9;p0 0 5 9;p0 0 5 9;p0 0 5 9;");
        for (int p = 6; p >= 0; p--) x.tell(p, 50);
        Check.due("of like ones", x.match(-1), 280);
        for (int p = 0; p < 7; p++) Check.due("the first of like ones " + p, x.match(p), p);
        x.tell(0, 0);
        x.tell(3, 0);
        int[] due = {-1, 0, 1, -1, 2, 3, 4};
        for (int p = 0; p < 7; p++) Check.due("the first five " + p, x.match(p), due[p]);
    }

    private static void matchWithNobody() {
        Called x = Check.with("o20 9;v1;p0 0 1 9;p0 0 1 9;p3 0 9 9;");
        x.tell(0, 50);
        x.tell(1, 60);
        // plain ones would only make it more
        Check.due("match(NONE)", x.match(-1), 50);
        Check.due("nobody is best for 0", x.match(0), Check.NONE);
        Check.due("the old woman is best for 1", x.match(1), 2);
        x.tell(2, 60);
        Check.due("the first of like ones has her", x.match(1), 2);
        Check.due("the last has nobody", x.match(2), Check.NONE);
        x.answer(1, 2);
        Check.due("all are kept", x.match(-1), 110);
        Check.due("nobody for 2", x.match(2), Check.NONE);

        x = Check.with("o20 1;v1;p2 0 1 9;");
        x.tell(0, 99);
        // ten turns get 1 off, six times the oracle adds 1
        Check.due("little is better than nothing", x.match(-1), 95);
        Check.due("by itself", x.match(0), 0);
        // 39, 38, 37 and 4 more, 40: nothing is got off
        x = Check.with("o4 4;v1;p0 0 1 9;p0 0 1 9;");
        x.tell(1, 40);
        Check.due("as much is left", x.match(-1), 40);
        Check.due("someone is ahead of nobody", x.match(1), 0);
    }

    private static void shares() {
        Called x = Check.withHills();
        int[][] due = {
            {0, 0, 0, 0}, {1, 0, 0, 1}, {2, 0, 1, 1}, {3, 1, 1, 1}, {4, 0, 2, 2}, {27, 9, 9, 9}, {28, 9, 9, 10},
            {29, 10, 9, 10}, {49, 20, 9, 20}, {50, 20, 9, 21}, {59, 20, 9, 30}, {60, -1, -1, -1}, {999, -1, -1, -1}};
        for (int[] row : due) {
            for (int v = 0; v < 3; v++) Check.due("shares(" + row[0] + ", " + v + ")", x.shares(row[0], v), row[v + 1]);
        }
        Check.due("shares(0, 3)", x.shares(0, 3), Check.UNKNOWN);
        Check.due("shares(-1, -1)", x.shares(-1, -1), Check.UNKNOWN);
        Check.due("shares(-1, 0)", x.shares(-1, 0), Check.OUTSIDE);
        Check.due("shares(1000, 0)", x.shares(1000, 0), Check.OUTSIDE);
        x.bear(2, 0);
        Check.due("with bear as it is now", x.shares(29, 0), 20);
        Check.due("and for the last", x.shares(29, 2), 0);
        Check.due("no more", x.shares(30, 2), Check.NONE);
        x = Check.with("o1 1;v99;v99;v99;v99;");
        Check.due("all that four can bear", x.shares(396, 0), 99);
        Check.due("one more", x.shares(397, 0), Check.NONE);
        // each by each against all ways to share
        x = Check.with("o1 1;v3;v0;v5;v2;");
        for (int amount = 0; amount <= 11; amount++) sharesByTrial(x, amount, new int[] {3, 0, 5, 2});
    }

    private static void sharesByTrial(Called x, int amount, int[] bear) {
        int[] best = null;
        for (int code = 0; code < 6 * 6 * 6 * 6; code++) {
            // the first village is the greatest figure, so that codes come with its share rising
            int[] share = {code / 216, code / 36 % 6, code / 6 % 6, code % 6};
            int sum = 0;
            boolean bears = true;
            for (int v = 0; v < 4; v++) {
                sum += share[v];
                bears &= share[v] <= bear[v];
            }
            if (bears && sum == amount && (best == null || greatest(share) < greatest(best))) best = share;
        }
        for (int v = 0; v < 4; v++) Check.due("trial of " + amount + " for " + v, x.shares(amount, v), best == null ? -1 : best[v]);
    }

    private static int greatest(int[] share) {
        return Math.max(Math.max(share[0], share[1]), Math.max(share[2], share[3]));
    }

    private static void dry() {
        Called x = new Called();
        Check.due("dry(0, 0)", x.dry(0, 0), 1000000000);
        Check.due("dry(1, 0)", x.dry(1, 0), 0);
        Check.due("dry(60, 100)", x.dry(60, 100), 1000000000);
        Check.due("dry(2, 33)", x.dry(2, 33), 108900000);
        Check.due("dry(1, 1)", x.dry(1, 1), 10000000);
        Check.due("dry(5, 1)", x.dry(5, 1), 0);
        Check.due("dry(5, 99), cut each time", x.dry(5, 99), 950990049);
        // 9 ^ 10 is 3486784401, the tenth figure is cut
        Check.due("dry(10, 90)", x.dry(10, 90), 348678440);
        Check.due("dry(7, 33)", x.dry(7, 33), 426184);
        Check.due("dry(60, 50), cut each time", x.dry(60, 50), 0);
        Check.due("dry(60, 99), cut each time", x.dry(60, 99), cutEachTime(60, 99));
        Check.due("dry(-1, 5)", x.dry(-1, 5), Check.OUTSIDE);
        Check.due("dry(61, 5)", x.dry(61, 5), Check.OUTSIDE);
        Check.due("dry(5, -1)", x.dry(5, -1), Check.OUTSIDE);
        Check.due("dry(5, 101)", x.dry(5, 101), Check.OUTSIDE);
    }

    private static int cutEachTime(int n, int q) {
        double odds = 1e9;
        for (int i = 0; i < n; i++) odds = Math.floor(odds * q / 100);
        return (int) odds;
    }

    private static void nothingChanges() {
        Called x = Check.withHills();
        x.tell(0, 50);
        x.tell(2, 60);
        x.answer(2, 1);
        x.seed(5);
        String before = Check.seen(x);
        x.down(0, 50, 0);
        x.best(40);
        x.match(-1);
        x.match(0);
        x.shares(30, 0);
        x.dry(5, 50);
        x.judge();
        Check.same("nothing changes by trying", Check.seen(x), before);
        Check.due("nor the seed", x.seed(0), 5);
    }
}
