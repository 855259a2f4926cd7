/** Promises 1 to 7: a new object, the text and its faults, what is told of the hills. */
public final class HillsTest {
    public static void main(String[] args) {
        newObject();
        feeding();
        readingWell();
        faults();
        faultChangesNothing();
        newHillsBeginAnew();
        noHillsAgain();
        nothingOfOldHills();
        told();
        borne();
        madeUp();
        persons();
        rings();
        villages();
        Check.end();
    }

    private static void newObject() {
        Called x = new Called();
        int[] due = {0, 0, 0, 0, 0, 0, 0, 0, 0, 0, 1, 0, -1, 0, 0, -1, -1, 0, 0};
        for (int what = 0; what < due.length; what++) Check.due("new told(" + what + ")", x.told(what), due[what]);
        Check.due("new fault()", x.fault(), Check.NONE);
        Check.due("new person(0, 0)", x.person(0, 0), Check.UNKNOWN);
        Check.due("new village(0, 0)", x.village(0, 0), Check.UNKNOWN);
        Check.due("new tell(0, 1)", x.tell(0, 1), Check.UNKNOWN);
        Check.due("new answer(0, 0)", x.answer(0, 0), Check.UNKNOWN);
        Check.due("new wit(0, 1)", x.wit(0, 1), Check.UNKNOWN);
        Check.due("new bear(0, 1)", x.bear(0, 1), Check.UNKNOWN);
        Check.due("new down(0, 1, 0)", x.down(0, 1, 0), Check.UNKNOWN);
        Check.due("new shares(0, 0)", x.shares(0, 0), Check.UNKNOWN);
        Check.due("new write(0, 0)", x.write(0, 0), Check.UNKNOWN);
        Check.due("new match(0)", x.match(0), Check.UNKNOWN);
        Check.due("new tear()", x.tear(), 0);
        Check.due("new goBack(0)", x.goBack(0), Check.NOT);
        Check.due("new keep(0)", x.keep(0), 1);
        Check.due("new goBack(0) again", x.goBack(0), 1);
        Check.due("new seed(7)", x.seed(7), 0);
    }

    private static void feeding() {
        Called x = new Called();
        Check.due("feed(-1)", x.feed(-1), Check.OUTSIDE);
        Check.due("feed(256)", x.feed(256), Check.OUTSIDE);
        Check.due("feed least", x.feed(Integer.MIN_VALUE), Check.OUTSIDE);
        Check.due("letters", x.told(4), 0);
        Check.due("feed(0)", x.feed(0), 1);
        Check.due("feed(255)", x.feed(255), 2);
        for (int i = 3; i <= 240; i++) Check.due("feed number " + i, x.feed(32), i);
        Check.due("feed beyond", x.feed(32), Check.FULL);
        Check.due("feed beyond and outside", x.feed(256), Check.OUTSIDE);
        Check.due("letters at the end", x.told(4), 240);
        Check.due("hills of a zero", x.hills(), -11);
        Check.due("fault at the zero", x.fault(), 0);
        Check.due("letters behind hills()", x.told(4), 0);
        for (int i = 1; i <= 240; i++) x.feed(i == 240 ? 'o' : 32);
        Check.due("hills of an 'o' at the end", x.hills(), -11);
        Check.due("fault at the end", x.fault(), 240);
    }

    private static void read(String text, int answer, int fault) {
        Called x = new Called();
        Check.feed(x, text);
        Check.due("hills of '" + text + "'", x.hills(), answer);
        Check.due("fault of '" + text + "'", x.fault(), fault);
        Check.due("letters behind '" + text + "'", x.told(4), 0);
    }

    private static void readingWell() {
        read("", 0, Check.NONE);
        read("   ", 0, Check.NONE);
        read("o1 1;", 0, Check.NONE);
        read("  o  20   9  ;  ", 0, Check.NONE);
        read("o001 009;v000;v099;", 0, Check.NONE);
        read("o1 1;v0;v99;v1;v2;", 0, Check.NONE);
        read("o1 1;v0;p0 0 1 0;", 1, Check.NONE);
        read("o1 1;v0;p0 0 1 6;", 1, Check.NONE);
        read("o1 1;v0;p3 0 9 9;v7;p1 1 1 9;", 2, Check.NONE);
        read("o1 1;v0; p 0 0 1 009 ;", 1, Check.NONE);
        read("o1 1;v0;p0 0 1 9;p0 0 1 9;p0 0 1 9;p0 0 1 9;p0 0 1 9;p0 0 1 9;p0 0 1 9;", 7, Check.NONE);
    }

    private static void faults() {
        read("v1;", -11, 0);
        read(" p", -11, 1);
        read(";", -11, 0);
        read("1", -11, 0);
        read("1234", -11, 0);
        read("x", -11, 0);
        read("O1 1;", -11, 0);
        read("o", -11, 1);
        read("o ", -11, 2);
        read("o;", -11, 1);
        read("o1", -11, 2);
        read("o1;", -11, 2);
        read("o11;", -11, 3);
        read("o1 1", -11, 4);
        read("o1 1 ", -11, 5);
        read("o1 1 1;", -11, 5);
        read("o1 1 1234;", -11, 5);
        read("o1\t1;", -11, 2);
        read("o-1 1;", -11, 1);
        read("o1 1;;", -11, 5);
        read("o1 1;x", -11, 5);
        read("o1 1;1", -11, 5);
        read("o1 1;v1", -11, 7);
        read("o1 1;v;", -11, 6);
        read("o1 1;vv", -11, 6);
        read("o1 1;vo", -11, 6);
        read("o1 1;v1o", -11, 7);
        read("o1 1;v1;p0 0 1;", -11, 14);
        read("o1 1;v1;p0 0 1 9 9;", -11, 17);
        read("o1 1;v1;p0 0 1 9", -11, 16);
        read("o0 1;", -12, 1);
        read("o21 1;", -12, 1);
        read("o0001 1;", -12, 1);
        read("o 1000000000000000000001 1;", -12, 2);
        read("o1 0;", -12, 3);
        read("o1 10;", -12, 3);
        read("o1 10", -12, 3);
        read("o99x", -12, 1);
        read("o1 1;v100;", -12, 6);
        read("o1 1;v0099;", -12, 6);
        read("o1 1;p0 0 1 9;", -12, 8);
        read("o1 1;v1;p4 0 1 9;", -12, 9);
        read("o1 1;v1;p0 1 1 9;v1;", -12, 11);
        read("o1 1;v1;p0 0 0 9;", -12, 13);
        read("o1 1;v1;p0 0 10 9;", -12, 13);
        read("o1 1;v1;p0 0 1 7;", -12, 15);
        read("o1 1;v1;p0 0 1  8;", -12, 16);
        read("o1 1;v1;p0 0 1 10;", -12, 15);
        read("o1 1;v1;p0 0 1 0009;", -12, 15);
        read("o1 1;v1;p0 0 1 8", -12, 15);
        read("o1 1;o", -13, 5);
        read("o1 1; o2 2;", -13, 6);
        read("o1 1;v0;v0;v0;v0;v", -13, 17);
        read("o1 1;v0;v0;v0;v0;v100;", -13, 17);
        read("o1 1;v0;p0 0 1 9;p0 0 1 9;p0 0 1 9;p0 0 1 9;p0 0 1 9;p0 0 1 9;p0 0 1 9;p", -13, 71);
    }

    private static void faultChangesNothing() {
        Called x = Check.withHills();
        x.keep(1);
        x.tell(0, 50);
        x.answer(0, 3);
        x.returned(29);
        x.write(0, 0);
        x.seed(77);
        String before = Check.seen(x);
        Check.feed(x, "o1 1;v1;v");
        Check.due("hills with a fault", x.hills(), -11);
        Check.due("its fault", x.fault(), 9);
        Check.same("all else is as it was", Check.seen(x), before);
        Check.due("undone still", x.undo(), 1);
        Check.due("seed still", x.seed(0), 77);
        Check.due("image still", x.goBack(1), 1);
        Check.feed(x, "o1 1;");
        Check.due("hills without a fault", x.hills(), 0);
        Check.due("no fault now", x.fault(), Check.NONE);
    }

    private static void newHillsBeginAnew() {
        Called x = Check.withHills();
        x.tell(0, 50);
        x.answer(0, 3);
        x.year(2);
        x.tell(1, 9);
        x.answer(1, 1);
        x.wit(0, 9);
        x.bear(0, 99);
        x.keep(0);
        x.keep(1);
        x.tell(0, 3);
        x.returned(1);
        x.write(0, 1);
        x.seed(1234);
        Check.feed(x, Check.HILLS);
        Check.due("hills again", x.hills(), 5);
        Check.same("all begins anew", Check.seen(x), Check.seen(Check.withHills()));
        Check.due("image 0 is gone", x.goBack(0), Check.NOT);
        Check.due("image 1 is gone", x.goBack(1), Check.NOT);
        Check.due("nothing to undo", x.undo(), Check.NOT);
        Check.due("the seed stays", x.seed(0), 1234);
    }

    private static void noHillsAgain() {
        Called x = Check.withHills();
        x.tell(0, 50);
        x.answer(0, 3);
        x.returned(5);
        Check.due("hills of an empty text", x.hills(), 0);
        Check.same("as new", Check.seen(x), Check.seen(new Called()));
        Check.due("year(1)", x.year(1), Check.NOT);
        Check.feed(x, "o3 2;");
        Check.due("hills without villages", x.hills(), 0);
        Check.due("patience", x.told(0), 3);
        Check.due("step", x.told(1), 2);
        Check.due("went", x.told(14), 1);
        Check.due("in each", x.told(15), 0);
        Check.due("ask", x.told(16), Check.NONE);
        Check.due("worst", x.told(12), Check.NONE);
        Check.due("year(1)", x.year(1), 0);
        Check.due("returned(1)", x.returned(1), 1);
        Check.due("went", x.told(14), 0);
        Check.due("in each", x.told(15), Check.NONE);
    }

    /** Text upon text on one object: what the text before the last had told must not show. */
    private static void nothingOfOldHills() {
        Called x = Check.withHills();
        Check.feed(x, "o20 9;v99;v99;v99;v99;p3 0 9 9;p3 1 9 9;p3 2 9 9;p3 3 9 9;p3 0 9 9;p3 1 9 9;p3 2 9 9;");
        Check.due("hills of seven", x.hills(), 7);
        for (int p = 0; p < 7; p++) x.tell(p, 99);
        Check.due("match of seven", x.match(-1), 0);
        Check.feed(x, Check.HILLS);
        Check.due("hills of five", x.hills(), 5);
        Check.same("as on a new object", Check.seen(x), Check.seen(Check.withHills()));
        Check.feed(x, "o5 5;v9;p0 0 1 0;");
        Check.due("hills of one", x.hills(), 1);
        x.tell(0, 99);
        Check.due("match of one", x.match(-1), 97);
        Check.due("as on a new object of one", x.village(0, 1), 1);
        Check.feed(x, "  ");
        Check.due("no hills", x.hills(), 0);
        Check.same("as new", Check.seen(x), Check.seen(new Called()));
    }

    private static void borne() {
        Called x = Check.with("o1 1;v4;v5;v9;p0 0 9 9;p0 1 9 9;p3 2 5 9;");
        Check.due("nothing is borne", x.told(10), 1);
        x.tell(2, 9);
        Check.due("she goes up", x.answer(2, 2), 0);
        Check.due("nine of four and five", x.told(10), 1);
        Check.due("had by the first", x.village(0, 2), 4);
        Check.due("had by the second", x.village(1, 2), 5);
        Check.due("made up", x.told(11), 1);
        x.bear(0, 3);
        Check.due("nine of three and five", x.told(10), 0);
        Check.due("made up later", x.told(11), 2);
        x.tell(0, 1);
        Check.due("told 1 is told above 0", x.told(7), 1);
        Check.due("had by the second alone", x.village(1, 2), 5);
        Check.due("had by none of the first", x.village(0, 2), 0);
        Check.due("one answers back 1", x.answer(0, 0), 0);
    }

    private static void madeUp() {
        Called x = Check.with("o1 1;v1;v0;p0 0 9 9;p3 1 9 9;");
        for (int i = 0; i < 3; i++) {
            x.tell(1, 20);
            x.answer(1, 1);
            // one of it is taken at once
            x.year(1);
        }
        Check.due("owed", x.told(6), 51);
        Check.due("made up in 51", x.told(11), 51);
        x.tell(1, 9);
        x.answer(1, 0);
        Check.due("made up in 60", x.told(11), 60);
        x.tell(0, 0);
        Check.due("one was told, so it is 61", x.told(11), Check.NONE);
        x.undo();
        x.tell(1, 1);
        x.answer(1, 1);
        Check.due("61 are not made up", x.told(11), Check.NONE);
        x.year(1);
        Check.due("but a year later", x.told(11), 60);
    }

    private static void told() {
        Called x = Check.withHills();
        Check.due("told(-1)", x.told(-1), Check.OUTSIDE);
        Check.due("told(19)", x.told(19), Check.OUTSIDE);
        Check.due("told(greatest)", x.told(Integer.MAX_VALUE), Check.OUTSIDE);
        x.feed('o');
        x.tell(0, 30);
        x.tell(2, 0);
        x.tell(4, 99);
        x.answer(0, 3);
        x.returned(29);
        x.write(0, 1);
        x.write(0, 2);
        int[] due = {5, 4, 3, 5, 1, 0, 30, 16, 10, 8, 0, 2, 0, 1, 1, 3, -1, 2, 4};
        for (int what = 0; what < due.length; what++) Check.due("told(" + what + ")", x.told(what), due[what]);
        Check.due("year(3)", x.year(3), 0);
        int[] then = {6, 4, 3, 5, 1, 3, 0, 0, 31, 0, 1, 0, 4, 1, 1, 3, -1, 2, 5};
        for (int what = 0; what < then.length; what++) Check.due("then told(" + what + ")", x.told(what), then[what]);
    }

    private static void persons() {
        Called x = Check.with("o6 4;v20;v9;p0 1 5 1;p3 0 2 5;p2 1 9 9;");
        Check.due("person(-1, 0)", x.person(-1, 0), Check.UNKNOWN);
        Check.due("person(3, 0)", x.person(3, 0), Check.UNKNOWN);
        Check.due("person(3, 9)", x.person(3, 9), Check.UNKNOWN);
        Check.due("person(0, 9)", x.person(0, 9), Check.OUTSIDE);
        Check.due("person(0, -1)", x.person(0, -1), Check.OUTSIDE);
        x.tell(1, 12);
        x.year(1);
        x.tell(0, 44);
        x.wit(2, 1);
        int[][] due = {{0, 1, 5, 1, 44, 0, 26, -1, 1}, {3, 0, 2, -1, 0, 12, 32, -1, 1}, {2, 1, 1, -1, 0, 0, 2, -1, 2}};
        for (int p = 0; p < 3; p++) {
            for (int what = 0; what < 9; what++) Check.due("person(" + p + ", " + what + ")", x.person(p, what), due[p][what]);
        }
    }

    private static void rings() {
        Called x = Check.with("o1 1;v0;p0 0 1 1;p0 0 1 2;p0 0 1 3;p0 0 1 4;p0 0 1 5;p0 0 1 6;p0 0 1 0;");
        for (int p = 0; p < 7; p++) {
            Check.due("ring of all " + p, x.person(p, 7), 7);
            Check.due("first of none " + p, x.person(p, 8), Check.NONE);
        }
        x = Check.with("o1 1;v0;p0 0 1 1;p0 0 1 2;p0 0 1 3;p0 0 1 4;p0 0 1 5;p0 0 1 6;p0 0 1 9;");
        for (int p = 0; p < 7; p++) {
            Check.due("no ring " + p, x.person(p, 7), Check.NONE);
            Check.due("the last is first " + p, x.person(p, 8), 6);
        }
        x = Check.with("o1 1;v0;p0 0 1 1;p0 0 1 2;p0 0 1 3;p0 0 1 4;p0 0 1 3;p0 0 1 5;p0 0 1 5;");
        int[] due = {2, 2, 2, 2, 2, 1, 1};
        for (int p = 0; p < 7; p++) Check.due("ring that one comes into " + p, x.person(p, 7), due[p]);
        x = Check.with("o1 1;v0;p0 0 1 2;p0 0 1 0;");
        Check.due("from one that there is not", x.person(0, 3), Check.NONE);
        Check.due("so it is first", x.person(1, 8), 0);
        x = Check.with("o1 1;v0;p0 0 1 1;p0 0 1 0;");
        Check.due("from one that comes later", x.person(0, 3), 1);
    }

    private static void villages() {
        Called x = Check.withHills();
        Check.due("village(-1, 0)", x.village(-1, 0), Check.UNKNOWN);
        Check.due("village(3, 0)", x.village(3, 0), Check.UNKNOWN);
        Check.due("village(3, 4)", x.village(3, 4), Check.UNKNOWN);
        Check.due("village(0, 4)", x.village(0, 4), Check.OUTSIDE);
        Check.due("village(0, -1)", x.village(0, -1), Check.OUTSIDE);
        x.tell(2, 90);
        x.answer(2, 3);
        x.tell(0, 7);
        x.year(1);
        x.tell(3, 0);
        int[][] due = {{20, 3, 14, 7}, {9, 12, 0, 46}, {30, 16, 0, 30}};
        for (int v = 0; v < 3; v++) {
            for (int what = 0; what < 4; what++) Check.due("village(" + v + ", " + what + ")", x.village(v, what), due[v][what]);
        }
        x = Check.with("o9 1;v50;v50;v3;p3 0 9 9;p0 2 1 9;p0 2 1 9;");
        x.tell(0, 99);
        x.answer(0, 0);
        Check.due("had by one that was told", x.village(0, 2), 0);
        Check.due("had where nobody is", x.village(1, 2), 0);
        Check.due("had by the last", x.village(2, 2), 3);
        Check.due("of nobody", x.village(1, 1), 0);
    }
}
