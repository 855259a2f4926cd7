/** Promises 8 to 14: what is done, and undone. */
public final class DeedsTest {
    public static void main(String[] args) {
        telling();
        answering();
        answeringRefused();
        owedAndHarmHaveAnEnd();
        years();
        yearsRefused();
        wits();
        bears();
        drifts();
        driftsByHand();
        undoing();
        undoingSixteen();
        Check.end();
    }

    private static void telling() {
        Called x = Check.withHills();
        Check.due("tell(1, 99)", x.tell(1, 99), 0);
        Check.due("tell(1, 5)", x.tell(1, 5), 99);
        Check.due("its fate", x.person(1, 4), 5);
        Check.due("tell(1, 0)", x.tell(1, 0), 5);
        Check.due("told above 0", x.told(7), 0);
        Check.due("told by 0 is told", x.told(8), 29);
        String before = Check.seen(x);
        Check.due("tell(5, 1)", x.tell(5, 1), Check.UNKNOWN);
        Check.due("tell(-1, 1)", x.tell(-1, 1), Check.UNKNOWN);
        Check.due("tell(5, 100)", x.tell(5, 100), Check.UNKNOWN);
        Check.due("tell(0, 100)", x.tell(0, 100), Check.OUTSIDE);
        Check.due("tell(0, -1)", x.tell(0, -1), Check.OUTSIDE);
        Check.unchanged(x, before);
    }

    private static void answering() {
        Called x = Check.withHills();
        x.tell(0, 90);
        x.tell(1, 90);
        x.tell(4, 90);
        // 85, 80, 75 and 4 more, 74, 69, 64
        Check.due("answer(0, 0)", x.answer(0, 0), 64);
        Check.due("patience", x.told(0), 5);
        Check.due("owed", x.told(6), 26);
        // five turns: 82, 74, 66 and 4 more, 62, 54
        Check.due("answer(0, 3)", x.answer(0, 3), 28);
        Check.due("patience", x.told(0), 4);
        Check.due("owed", x.told(6), 62);
        // four turns: 88, 85, 81 and 4 more, 80
        Check.due("answer(1, 1)", x.answer(1, 1), 80);
        // three turns: 81, 81, 72
        Check.due("answer(4, 2)", x.answer(4, 2), 72);
        Check.due("patience", x.told(0), 2);
        // two turns: 71, 70
        Check.due("answer(4, 4)", x.answer(4, 4), 70);
        Check.due("patience", x.told(0), 1);
        Check.due("who went up", x.told(9), 31);
        Check.due("owed", x.told(6), 92);

        x = Check.with("o1 9;v1;p0 0 1 9;p0 0 1 9;");
        x.tell(0, 5);
        x.tell(1, 5);
        Check.due("answer with a patience of 1", x.answer(0, 0), 4);
        Check.due("patience stays 1", x.told(0), 1);
        Check.due("answer again", x.answer(1, 1), 4);
        Check.due("patience stays 1 again", x.told(0), 1);

        x = Check.with("o20 9;v1;p0 0 1 9;");
        x.tell(0, 40);
        Check.due("one may get up instead", x.answer(0, 0), 74);
        Check.due("nothing is owed by it", x.told(6), 0);
        x = Check.with("o20 9;v1;p0 0 1 9;");
        x.tell(0, 99);
        // at 99 again behind each of the six turns of the oracle, then two turns more
        Check.due("99 at most", x.answer(0, 0), 97);
        Check.due("owed by it", x.told(6), 2);
    }

    private static void answeringRefused() {
        Called x = Check.withHills();
        x.tell(0, 40);
        x.tell(1, 40);
        x.answer(0, 2);
        String before = Check.seen(x);
        Check.due("answer(5, 0)", x.answer(5, 0), Check.UNKNOWN);
        Check.due("answer(0, 5)", x.answer(0, 5), Check.UNKNOWN);
        Check.due("answer(-1, 2)", x.answer(-1, 2), Check.UNKNOWN);
        Check.due("answer(3, -1)", x.answer(3, -1), Check.UNKNOWN);
        Check.due("answer(3, 0), a fate of 0", x.answer(3, 0), Check.NOT);
        Check.due("answer(1, 2), who went up", x.answer(1, 2), Check.NOT);
        Check.unchanged(x, before);
        x.year(1);
        x.tell(1, 40);
        Check.due("next year one goes up again", x.answer(1, 2), 17);
    }

    private static void owedAndHarmHaveAnEnd() {
        Called x = Check.with("o20 1;v99;p3 0 9 9;p3 0 9 9;p3 0 9 9;p3 0 9 9;p3 0 9 9;p3 0 9 9;p3 0 9 9;");
        for (int year = 0; year < 14; year++) {
            for (int p = 0; p < 7; p++) {
                x.tell(p, 99);
                x.answer(p, p);
            }
            Check.due("owed in year " + year, x.told(6), 693 * (year + 1));
            x.year(1);
        }
        for (int p = 0; p < 7; p++) {
            x.tell(p, 99);
            x.answer(p, p);
        }
        Check.due("owed has an end", x.told(6), 9999);
        Check.due("made up in none of 60", x.told(11), Check.NONE);

        x = Check.with("o1 1;v0;p0 0 1 9;");
        for (int year = 1; year <= 103; year++) {
            x.tell(0, 99);
            x.year(1);
            if (year <= 101) Check.due("harm in year " + year, x.person(0, 5), 99 * year);
        }
        Check.due("harm has an end", x.person(0, 5), 9999);

        x = Check.with("o20 1;v99;v0;p0 0 1 9;p3 1 9 9;p3 1 9 9;");
        for (int year = 1; year <= 102; year++) {
            x.tell(1, 99);
            x.answer(1, 1);
            x.year(1);
        }
        Check.due("harm of what was got off has an end", x.person(0, 5), 9999);
    }

    private static void years() {
        Called x = Check.withHills();
        x.tell(2, 90);
        x.answer(2, 3);
        x.tell(4, 8);
        // 44 are owed: village 0 takes 20, 1 and 2 have some who were told
        Check.due("year(1)", x.year(1), 24);
        int[] harm = {10, 10, 46, 0, 8};
        for (int p = 0; p < 5; p++) Check.due("harm of " + p, x.person(p, 5), harm[p]);
        for (int p = 0; p < 5; p++) Check.due("fate of " + p, x.person(p, 4), 0);
        Check.due("patience as told", x.told(0), 6);
        Check.due("years", x.told(5), 1);
        Check.due("untold", x.told(8), 31);
        Check.due("who went up", x.told(9), 0);
        // village 0 takes 20, village 1 the 4 that are left
        Check.due("year(60)", x.year(60), 0);
        int[] then = {20, 20, 48, 2, 8};
        for (int p = 0; p < 5; p++) Check.due("then harm of " + p, x.person(p, 5), then[p]);
        Check.due("then years", x.told(5), 61);

        x = Check.with("o9 1;v10;v5;p0 1 1 9;p0 1 1 9;p3 1 9 9;");
        x.tell(2, 50);
        x.answer(2, 2);
        Check.due("a village where nobody is takes nothing", x.year(2), 45);
        Check.due("the part is cut", x.person(0, 5), 1);
        Check.due("the part is cut, last", x.person(2, 5), 1);
    }

    private static void yearsRefused() {
        Called x = new Called();
        Check.due("year(0) without hills", x.year(0), Check.OUTSIDE);
        Check.due("drift(61) without hills", x.drift(61), Check.OUTSIDE);
        Check.due("year(1) without hills", x.year(1), Check.NOT);
        Check.due("drift(1) without hills", x.drift(1), Check.NOT);
        x = Check.withHills();
        String before = Check.seen(x);
        Check.due("year(0)", x.year(0), Check.OUTSIDE);
        Check.due("year(61)", x.year(61), Check.OUTSIDE);
        Check.due("drift(0)", x.drift(0), Check.OUTSIDE);
        Check.due("drift(-5)", x.drift(-5), Check.OUTSIDE);
        Check.unchanged(x, before);
        x = Check.withHills();
        for (int i = 0; i < 150; i++) Check.due("year(60)", x.year(60), 0);
        Check.due("years", x.told(5), 9000);
        Check.due("year(60) at 9000", x.year(60), 0);
        Check.due("years", x.told(5), 9060);
        before = Check.seen(x);
        Check.due("year(1) above 9000", x.year(1), Check.FULL);
        Check.due("drift(1) above 9000", x.drift(1), Check.FULL);
        Check.due("year(61) above 9000", x.year(61), Check.OUTSIDE);
        Check.unchanged(x, before);
        x.undo();
        Check.due("year(1) at 9000", x.year(1), 0);
        Check.due("drift(1) at 9001", x.drift(1), Check.FULL);
    }

    private static void wits() {
        Called x = Check.withHills();
        Check.due("wit(0, 1)", x.wit(0, 1), 5);
        Check.due("wit(0, 9)", x.wit(0, 9), 1);
        Check.due("wit now", x.person(0, 2), 9);
        Check.due("down by it", x.down(0, 99, 0), 49);
        String before = Check.seen(x);
        Check.due("wit(5, 1)", x.wit(5, 1), Check.UNKNOWN);
        Check.due("wit(-1, 0)", x.wit(-1, 0), Check.UNKNOWN);
        Check.due("wit(0, 0)", x.wit(0, 0), Check.OUTSIDE);
        Check.due("wit(0, 10)", x.wit(0, 10), Check.OUTSIDE);
        Check.unchanged(x, before);
    }

    private static void bears() {
        Called x = Check.withHills();
        Check.due("bear(1, 99)", x.bear(1, 99), 9);
        Check.due("bear(1, 0)", x.bear(1, 0), 99);
        Check.due("bear now", x.village(1, 0), 0);
        String before = Check.seen(x);
        Check.due("bear(3, 1)", x.bear(3, 1), Check.UNKNOWN);
        Check.due("bear(-1, -1)", x.bear(-1, -1), Check.UNKNOWN);
        Check.due("bear(0, -1)", x.bear(0, -1), Check.OUTSIDE);
        Check.due("bear(0, 100)", x.bear(0, 100), Check.OUTSIDE);
        Check.unchanged(x, before);
    }

    private static void drifts() {
        Called x = Check.withHills();
        x.seed(5);
        x.drift(20);
        Check.due("harm of 3 by draws", x.person(3, 5), 236);
        Check.due("seed behind 60 draws", x.seed(0), seedBehind(5, 60));
        x = Check.with("o5 5;v1;");
        x.seed(99);
        Check.due("drift without persons", x.drift(7), 0);
        Check.due("years", x.told(5), 7);
        Check.due("no draws without persons", x.seed(0), 99);
        x = Check.withHills();
        x.seed(Integer.MAX_VALUE);
        x.drift(1);
        Check.due("seed from the greatest", x.seed(0), seedBehind(Integer.MAX_VALUE, 3));
    }

    private static int seedBehind(int seed, int draws) {
        java.math.BigInteger x = java.math.BigInteger.valueOf(seed);
        for (int i = 0; i < draws; i++) {
            x = x.multiply(java.math.BigInteger.valueOf(1103515245L)).add(java.math.BigInteger.valueOf(12345L));
            x = x.mod(java.math.BigInteger.ONE.shiftLeft(31));
        }
        return x.intValueExact();
    }

    /** One year by draws for many seeds, with one who was told ahead, against what its three draws say. */
    private static void driftsByHand() {
        int[] deeds = new int[4];
        for (int seed = 0; seed < 60; seed++) {
            Called x = Check.with("o5 5;v10;v20;p0 0 2 9;p1 1 3 9;");
            Called y = Check.with("o5 5;v10;v20;p0 0 2 9;p1 1 3 9;");
            x.tell(0, 77);
            y.tell(0, 77);
            x.seed(seed * 35000001);
            int deed = seedBehind(seed * 35000001, 1) / 65536 % 4;
            int p = seedBehind(seed * 35000001, 2) / 65536 % 2;
            int last = seedBehind(seed * 35000001, 3) / 65536 % 100;
            deeds[deed]++;
            if (deed < 2) y.tell(p, last);
            if (deed == 2 && p == 0) y.answer(0, 0);
            if (deed == 3) y.wit(p, last % 9 + 1);
            y.year(1);
            Check.due("owed by seed " + seed, x.drift(1), y.told(6));
            x.keep(0);
            y.keep(0);
            Check.same("as by hand, seed " + seed, Check.seen(x), Check.seen(y));
        }
        for (int deed = 0; deed < 4; deed++) Check.due("deed " + deed + " was drawn", deeds[deed] > 0 ? 1 : 0, 1);

        // one who went up this year cannot answer back by draws
        for (int seed = 0; seed < 40; seed++) {
            int start = seed * 50000003;
            if (seedBehind(start, 1) / 65536 % 4 != 2) continue;
            Called x = Check.with("o5 5;v10;p0 0 2 9;");
            x.tell(0, 77);
            x.answer(0, 0);
            int owed = x.told(6);
            x.seed(start);
            Check.due("no second time by draws", x.drift(1), owed);
        }
    }

    /** The first so many of one deed of each kind that can be undone. */
    private static Called behind(int deeds) {
        Called x = Check.withHills();
        x.seed(3);
        if (deeds > 0) x.tell(0, 80);
        if (deeds > 1) x.answer(0, 3);
        if (deeds > 2) x.wit(1, 9);
        if (deeds > 3) x.bear(2, 1);
        if (deeds > 4) x.year(2);
        if (deeds > 5) x.drift(2);
        return x;
    }

    private static void undoing() {
        for (int left = 5; left >= 0; left--) {
            Called x = behind(6);
            for (int i = 5; i >= left; i--) Check.due("undo()", x.undo(), i);
            Check.same("as ahead of deed " + left, Check.seen(x), Check.seen(behind(left)));
            Check.due("the seed stays", x.seed(0), seedBehind(3, 6));
        }
        Called x = behind(1);
        Check.due("undo()", x.undo(), 0);
        Check.due("undo() of nothing", x.undo(), Check.NOT);

        x.tell(0, 5);
        x.write(0, 1);
        x.returned(1);
        x.undo();
        Check.due("the book stays", x.told(17), 1);
        Check.due("returns stay", x.told(13), 1);
        x.tell(0, 100);
        x.answer(0, 0);
        x.year(0);
        x.wit(0, 0);
        x.bear(0, 100);
        x.drift(0);
        Check.due("what is refused cannot be undone", x.undo(), Check.NOT);
    }

    private static void undoingSixteen() {
        Called x = Check.withHills();
        for (int i = 1; i <= 21; i++) {
            x.tell(0, i);
            Check.due("can be undone", x.told(18), Math.min(i, 16));
        }
        for (int i = 20; i >= 5; i--) {
            Check.due("undo()", x.undo(), i - 5);
            Check.due("the fate ahead", x.person(0, 4), i);
        }
        Check.due("undo() beyond", x.undo(), Check.NOT);
        Check.due("the oldest are lost", x.person(0, 4), 5);
        x.tell(0, 50);
        Check.due("undo() later", x.undo(), 0);
        Check.due("the fate then", x.person(0, 4), 5);
    }
}
