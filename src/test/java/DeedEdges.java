import java.util.function.Consumer;
import java.util.function.ToIntFunction;

/** Boundary cases of promises 8 to 14: what is done, and undone. */
final class DeedEdges extends Edge {
    private static final int[] NO_PERSON = {-1, 5, 6, LEAST, GREATEST};

    static void run() {
        tell();
        answer();
        answerRefused();
        year();
        wit();
        bear();
        drift();
        undo();
    }

    private static void refusedAt(int[] numbers, int want, Consumer<Called> ahead, Of call) {
        for (int n : numbers) {
            ToIntFunction<Called> refused = x -> call.on(x, n);
            refused(ahead, refused, want);
        }
    }

    /** A call with one number that is tried. */
    private interface Of {
        int on(Called x, int n);
    }

    private static void tell() {
        of("Promise 8", "TOLD a FATE of n (0 .. 99): what it was.");
        Called x = Called.with(Check.HILLS);
        due(x.tell(0, 99), 0);
        due(x.tell(0, 0), 99);
        due(x.tell(0, 1), 0);
        due(x.tell(4, 98), 0);
        due(x.tell(4, 98), 98);
        x.answer(0, 0);
        due(x.tell(0, 7), 0);
        x.year(1);
        due(x.tell(0, 7), 0);
        of("Promise 8", "UNKNOWN");
        refusedAt(NO_PERSON, UNKNOWN, RICH, (y, p) -> y.tell(p, 0));
        refusedAt(new int[] {-1, 0, 6}, UNKNOWN, NEW, (y, p) -> y.tell(p, 0));
        of("Promise 8", "OUTSIDE");
        refusedAt(new int[] {-1, 100, LEAST, GREATEST}, OUTSIDE, RICH, (y, n) -> y.tell(0, n));
    }

    private static void answer() {
        of("Promise 9", "ANSWERED BACK for p by q (perhaps itself): the FATE then.");
        Called x = Called.with("o2 1;v0;p0 0 1 9;p0 0 9 9;");
        x.tell(0, 99);
        due(x.answer(0, 0), 97);
        due(x.answer(0, 1), 88);
        due(x.told(0), 1);
        x.year(1);
        x.tell(1, 18);
        due(x.answer(1, 1), 0);
        x.tell(1, 1);
        due(x.answer(1, 0), 0);
        of("Promise 9", "UNKNOWN");
        refusedAt(NO_PERSON, UNKNOWN, RICH, (y, p) -> y.answer(p, 4));
        refusedAt(NO_PERSON, UNKNOWN, RICH, (y, q) -> y.answer(3, q));
        refused(RICH, y -> y.answer(5, 5), UNKNOWN);
        refused(NEW, y -> y.answer(0, 0), UNKNOWN);
    }

    private static void answerRefused() {
        of("Promise 9", "NOT: it is 0");
        refused(RICH, x -> x.answer(1, 1), NOT);
        refused(RICH, x -> x.answer(1, 4), NOT);
        refused(x -> {
            x.read(Check.HILLS);
            x.tell(1, 0);
        }, x -> x.answer(1, 1), NOT);
        refused(x -> {
            x.read(Check.HILLS);
            x.tell(1, 5);
            x.answer(1, 2);
        }, x -> x.answer(1, 1), NOT);
        refused(x -> {
            x.read(Check.HILLS);
            x.tell(1, 5);
            x.year(1);
        }, x -> x.answer(1, 1), NOT);
        Called x = Called.with(Check.HILLS);
        x.tell(1, 1);
        due(x.answer(1, 1), 0);
        of("Promise 9", "q went up this YEAR");
        refused(RICH, y -> y.answer(3, 0), NOT);
        refused(RICH, y -> y.answer(1, 0), NOT);
        // whether one was gone up for is not asked
        Called y = new Called();
        RICH.accept(y);
        due(y.answer(3, 3) >= 0 ? 1 : 0, 1);
        due(y.answer(3, 3), NOT);
        y.undo();
        due(y.answer(3, 3) >= 0 ? 1 : 0, 1);
    }

    /** Both pass the same years while nobody is there to be told. */
    private static void yearsAreFew(Of pass) {
        Called x = Called.with("o1 1;v9;");
        due(pass.on(x, 1), 0);
        due(x.told(5), 1);
        due(pass.on(x, 60), 0);
        due(x.told(5), 61);
    }

    private static void yearsHaveAnEnd(Of pass) {
        Called x = Called.with("o1 1;v9;");
        for (int i = 0; i < 149; i++) x.year(60);
        due(pass.on(x, 59), 0);
        due(x.told(5), 8999);
        due(pass.on(x, 1), 0);
        due(x.told(5), 9000);
        due(pass.on(x, 60), 0);
        due(x.told(5), 9060);
        due(pass.on(x, 1), FULL);
        x.undo();
        due(pass.on(x, 1), 0);
        due(x.told(5), 9001);
        due(pass.on(x, 1), FULL);
        due(pass.on(x, 60), FULL);
        refusedAt(new int[] {1, 60}, FULL, TermsEdges::toYear9001, pass);
    }

    private static void year() {
        of("Promise 10", "n YEARS (1 .. 60): OWED.");
        yearsAreFew(Called::year);
        Called x = Called.with("o4 1;v1;v0;p0 0 9 9;p3 1 9 9;");
        x.tell(1, 61);
        due(x.answer(1, 1), 0);
        due(x.year(1), 60);
        due(x.year(59), 1);
        due(x.year(60), 0);
        due(x.person(0, 5), 61);
        of("Promise 10", "OUTSIDE");
        refusedAt(new int[] {0, -1, 61, LEAST, GREATEST}, OUTSIDE, RICH, Called::year);
        of("Promise 10", "NOT: no HILLS");
        refusedAt(new int[] {1, 60}, NOT, NEW, Called::year);
        refusedAt(new int[] {1, 60}, NOT, x2 -> {
            x2.read(Check.HILLS);
            x2.read("  ");
        }, Called::year);
        of("Promise 10", "FULL: YEARS are above 9000");
        yearsHaveAnEnd(Called::year);
    }

    private static void wit() {
        of("Promise 11", "WIT (1 .. 9): what it was.");
        Called x = Called.with(Check.HILLS);
        due(x.wit(0, 1), 5);
        due(x.wit(0, 9), 1);
        due(x.wit(0, 9), 9);
        due(x.person(0, 2), 9);
        due(x.wit(4, 9), 1);
        of("Promise 11", "UNKNOWN");
        refusedAt(NO_PERSON, UNKNOWN, RICH, (y, p) -> y.wit(p, 1));
        refused(NEW, y -> y.wit(0, 1), UNKNOWN);
        of("Promise 11", "OUTSIDE");
        refusedAt(new int[] {0, -1, 10, LEAST, GREATEST}, OUTSIDE, RICH, (y, w) -> y.wit(0, w));
    }

    private static void bear() {
        of("Promise 12", "BEAR (0 .. 99): what it was.");
        Called x = Called.with(Check.HILLS);
        due(x.bear(0, 0), 20);
        due(x.bear(0, 99), 0);
        due(x.bear(0, 99), 99);
        due(x.village(0, 0), 99);
        due(x.bear(2, 1), 30);
        of("Promise 12", "UNKNOWN");
        refusedAt(new int[] {-1, 3, LEAST, GREATEST}, UNKNOWN, RICH, (y, v) -> y.bear(v, 0));
        refused(NEW, y -> y.bear(0, 0), UNKNOWN);
        of("Promise 12", "OUTSIDE");
        refusedAt(new int[] {-1, 100, LEAST, GREATEST}, OUTSIDE, RICH, (y, b) -> y.bear(0, b));
    }

    private static void drift() {
        of("Promise 13", "n YEARS (1 .. 60) BY DRAWS: OWED.");
        yearsAreFew(Called::drift);
        // one who is told by draws lets its village take nothing in that year
        Called x = Called.with("o1 1;v1;p0 0 9 9;");
        x.tell(0, 9);
        x.answer(0, 0);
        // from 0 on it is told 88, in the year in which it was told anyway
        due(x.drift(1), 9);
        due(x.person(0, 5), 88);
        of("Promise 13", "OUTSIDE");
        refusedAt(new int[] {0, -1, 61, LEAST, GREATEST}, OUTSIDE, RICH, Called::drift);
        of("Promise 13", "NOT: no HILLS");
        refusedAt(new int[] {1, 60}, NOT, NEW, Called::drift);
        refusedAt(new int[] {1, 60}, NOT, y -> {
            y.read(Check.HILLS);
            y.hills();
        }, Called::drift);
        of("Promise 13", "FULL: YEARS are above 9000");
        yearsHaveAnEnd(Called::drift);
    }

    private static void undo() {
        of("Promise 14", "The latest is undone: how many more can be.");
        Called x = Called.with(Check.HILLS);
        for (int i = 0; i < 17; i++) x.tell(0, i);
        for (int more = 15; more >= 0; more--) due(x.undo(), more);
        due(x.person(0, 4), 0);
        due(x.told(8), 30);
        Called y = Called.with(Check.HILLS);
        y.tell(0, 5);
        due(y.undo(), 0);
        due(y.told(8), 31);
        of("Promise 14", "NOT: none.");
        due(x.undo(), NOT);
        due(y.undo(), NOT);
        refused(NEW, z -> z.undo(), NOT);
        refused(z -> z.read(Check.HILLS), z -> z.undo(), NOT);
        refused(z -> {
            RICH.accept(z);
            z.keep(0);
        }, z -> z.undo(), NOT);
        refused(z -> {
            RICH.accept(z);
            z.goBack(1);
        }, z -> z.undo(), NOT);
        refused(z -> {
            RICH.accept(z);
            z.hills();
        }, z -> z.undo(), NOT);
    }
}
