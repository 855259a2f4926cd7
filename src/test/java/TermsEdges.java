import java.util.function.Consumer;
import java.util.function.ToIntFunction;

/** Boundary cases of "What it is" and of "Terms": numbers, sets, refusals and their order. */
final class TermsEdges extends Edge {
    private static final String SEVEN = "o1 1;v9;v9;p0 0 1 9;p0 0 1 9;p0 0 1 9;p0 0 1 9;p0 0 1 9;p0 1 1 9;p0 1 1 9;";

    static void run() {
        calls();
        wholeNumbers();
        fromZeroOn();
        sets();
        none();
        order();
        unknownPersons();
        unknownVillages();
        unknownImages();
        oneTwice();
        outside();
        notNow();
        full();
        farBelow();
        billion();
    }

    private static void calls() {
        of("What it is", "An object is used for at most 512 calls after it has been made; what later calls answer is free.");
        Called x = Called.with(SEVEN);
        for (int was = 0; x.calls() < 510; was = (was + 1) % 100) due(x.tell(0, (was + 1) % 100), was);
        due(x.tell(6, 42), 0);
        due(x.person(6, 4), 42);
        due(x.calls(), 512);
        // later ones may answer what they like, but must not throw
        AnsweredFates y = new AnsweredFates();
        for (int i = 0; i < 3000; i++) {
            y.feed(SEVEN.charAt(i % SEVEN.length()));
            if (i % 700 == SEVEN.length() - 1) y.hills();
            y.tell(i % 7, i % 100);
            y.answer(i % 7, i % 7);
            y.drift(60);
            y.returned(i % 1000);
            y.write(i % 7, i);
            y.told(i % 19);
        }
    }

    private static void wholeNumbers() {
        noEdge("Terms", "Words in capitals are told where they come first.");
        of("Terms", "All numbers are whole; / cuts towards 0.");
        Called x = new Called();
        // 10 of a BILLION, of which a hundredth is a tenth
        due(x.dry(4, 1), 10);
        due(x.dry(5, 1), 0);
        // half of a step of 1 is nothing, of 3 it is 1
        due(Called.with("o1 1;v0;p3 0 1 9;").down(0, 50, 0), 48);
        due(Called.with("o1 2;v0;p3 0 1 9;").down(0, 50, 0), 47);
        due(Called.with("o1 3;v0;p3 0 1 9;").down(0, 50, 0), 47);
    }

    private static void fromZeroOn() {
        of("Terms", "What has a number has it from 0 on, as it comes.");
        Called x = Called.with("o1 1;v5;v6;p0 1 3 9;p1 0 4 9;");
        due(x.village(0, 0), 5);
        due(x.village(1, 0), 6);
        due(x.village(2, 0), UNKNOWN);
        due(x.person(0, 2), 3);
        due(x.person(1, 2), 4);
        due(x.person(2, 2), UNKNOWN);
        x.write(0, 1);
        due(x.judge(), 0);
        due(x.keep(0), 1);
        due(x.keep(1), 1);
        due(x.keep(2), UNKNOWN);
        x.read("x");
        due(x.fault(), 0);
    }

    private static void sets() {
        of("Terms", "A SET is a whole number, bit k for k (of PERSONS, if nothing else is told).");
        Called x = Called.with(SEVEN);
        due(x.told(7), 0);
        due(x.told(8), 127);
        due(x.told(9), 0);
        due(x.village(0, 1), 31);
        due(x.village(1, 1), 96);
        for (int p = 0; p < 7; p++) x.tell(p, 50);
        due(x.told(7), 127);
        due(x.told(8), 0);
        x.answer(6, 0);
        due(x.told(9), 1);
        x.answer(0, 6);
        due(x.told(9), 65);
        for (int p = 1; p < 6; p++) x.answer(p, p);
        due(x.told(9), 127);
        // a set of villages, where that is told: both, then the second alone
        x.returned(18);
        due(x.told(15), 3);
        x.tear();
        x.bear(0, 1);
        x.returned(9);
        due(x.told(15), 2);
    }

    private static void none() {
        of("Terms", "NONE is -1.");
        due(AnsweredFates.NONE, -1);
        due(new Called().judge(), -1);
        due(new Called().fault(), -1);
        due(new Called().match(-1), 0);
    }

    private static void order() {
        of("Terms", "REFUSALS, of several the first in this order:");
        Consumer<Called> wroteAll = x -> {
            RICH.accept(x);
            for (int i = 0; i < 13; i++) x.write(0, 0);
            for (int i = 0; i < 5; i++) x.returned(0);
        };
        // UNKNOWN ahead of OUTSIDE
        refused(RICH, x -> x.person(5, 9), UNKNOWN);
        refused(RICH, x -> x.village(3, 4), UNKNOWN);
        refused(RICH, x -> x.tell(5, 100), UNKNOWN);
        refused(RICH, x -> x.wit(5, 0), UNKNOWN);
        refused(RICH, x -> x.bear(3, 100), UNKNOWN);
        refused(RICH, x -> x.down(5, 100, 2), UNKNOWN);
        refused(RICH, x -> x.shares(1000, 3), UNKNOWN);
        refused(RICH, x -> x.write(5, 10000), UNKNOWN);
        // UNKNOWN ahead of NOT: 0 went up, 1 has a fate of 0
        refused(RICH, x -> x.answer(5, 0), UNKNOWN);
        refused(RICH, x -> x.answer(1, 5), UNKNOWN);
        refused(NEW, x -> x.goBack(2), UNKNOWN);
        // UNKNOWN, then OUTSIDE ahead of FULL
        refused(wroteAll, x -> x.write(5, 0), UNKNOWN);
        refused(wroteAll, x -> x.write(5, -1), UNKNOWN);
        refused(wroteAll, x -> x.write(0, 10000), OUTSIDE);
        refused(wroteAll, x -> x.returned(1000), OUTSIDE);
        refused(x -> x.feedAll(" ".repeat(240)), x -> x.feed(256), OUTSIDE);
        refused(TermsEdges::toYear9001, x -> x.year(61), OUTSIDE);
        refused(TermsEdges::toYear9001, x -> x.drift(0), OUTSIDE);
        // OUTSIDE ahead of NOT
        refused(NEW, x -> x.year(0), OUTSIDE);
        refused(NEW, x -> x.year(61), OUTSIDE);
        refused(NEW, x -> x.drift(0), OUTSIDE);
        refused(NEW, x -> x.drift(61), OUTSIDE);
        refused(NEW, x -> x.returned(-1), OUTSIDE);
        refused(NEW, x -> x.returned(1000), OUTSIDE);
    }

    static void toYear9001(Called x) {
        x.read(Check.HILLS);
        x.tell(0, 50);
        x.answer(0, 1);
        for (int i = 0; i < 150; i++) x.year(60);
        x.year(1);
    }

    private static void unknown(Consumer<Called> ahead, ToIntFunction<Called> call) {
        refused(ahead, call, UNKNOWN);
    }

    private static void unknownPersons() {
        of("Terms", "UNKNOWN (a PERSON");
        for (int p : new int[] {-1, 5, 7, LEAST, GREATEST, NONE - 1}) {
            unknown(RICH, x -> x.person(p, 0));
            unknown(RICH, x -> x.tell(p, 5));
            unknown(RICH, x -> x.answer(p, 4));
            unknown(RICH, x -> x.answer(2, p));
            unknown(RICH, x -> x.wit(p, 5));
            unknown(RICH, x -> x.down(p, 5, 0));
            unknown(RICH, x -> x.write(p, 5));
            // NONE asks for how much
            if (p != NONE) unknown(RICH, x -> x.match(p));
        }
        for (int p = 0; p < 7; p++) {
            int none = p;
            unknown(NEW, x -> x.person(none, 0));
            unknown(NEW, x -> x.match(none));
        }
        Called x = Called.with(SEVEN);
        due(x.person(6, 0), 0);
        due(x.tell(6, 5), 0);
        due(x.answer(6, 6), 4);
        due(x.wit(6, 9), 1);
        due(x.down(6, 5, 0), 0);
        due(x.match(6), 0);
        due(x.write(6, 0), 1);
    }

    private static void unknownVillages() {
        of("Terms", "VILLAGE, IMAGE that there is not");
        for (int v : new int[] {-1, 3, 4, LEAST, GREATEST}) {
            unknown(RICH, x -> x.village(v, 0));
            unknown(RICH, x -> x.bear(v, 5));
            unknown(RICH, x -> x.shares(5, v));
        }
        unknown(NEW, x -> x.village(0, 0));
        unknown(NEW, x -> x.bear(0, 5));
        unknown(NEW, x -> x.shares(0, 0));
        Called x = Called.with("o1 1;v1;v2;v3;v4;");
        due(x.village(3, 0), 4);
        due(x.bear(3, 5), 4);
        due(x.shares(15, 3), NONE);
        due(x.shares(11, 3), 5);
    }

    private static void unknownImages() {
        for (int i : new int[] {-1, 2, LEAST, GREATEST}) {
            unknown(RICH, x -> x.keep(i));
            unknown(RICH, x -> x.goBack(i));
        }
    }

    private static void oneTwice() {
        of("Terms", "bits of such; one twice, where two are asked");
        // no call takes a set, and where two are asked both may be one: "perhaps itself"
        Called x = Called.with(SEVEN);
        x.tell(6, 50);
        due(x.answer(6, 6), 49);
    }

    private static void outside() {
        of("Terms", "OUTSIDE (another number out of its bounds)");
        for (int out : new int[] {LEAST, -1, 1000000, GREATEST}) {
            refused(RICH, x -> x.feed(out), OUTSIDE);
            refused(RICH, x -> x.told(out), OUTSIDE);
            refused(RICH, x -> x.person(0, out), OUTSIDE);
            refused(RICH, x -> x.village(0, out), OUTSIDE);
            refused(RICH, x -> x.tell(0, out), OUTSIDE);
            refused(RICH, x -> x.year(out), OUTSIDE);
            refused(RICH, x -> x.wit(0, out), OUTSIDE);
            refused(RICH, x -> x.bear(0, out), OUTSIDE);
            refused(RICH, x -> x.drift(out), OUTSIDE);
            refused(RICH, x -> x.down(0, out, 0), OUTSIDE);
            refused(RICH, x -> x.down(0, 5, out), OUTSIDE);
            refused(RICH, x -> x.best(out), OUTSIDE);
            refused(RICH, x -> x.shares(out, 0), OUTSIDE);
            refused(RICH, x -> x.dry(out, 50), OUTSIDE);
            refused(RICH, x -> x.dry(5, out), OUTSIDE);
            refused(RICH, x -> x.returned(out), OUTSIDE);
            refused(RICH, x -> x.write(0, out), OUTSIDE);
        }
        refused(RICH, x -> x.seed(-1), OUTSIDE);
        refused(RICH, x -> x.seed(LEAST), OUTSIDE);
    }

    private static void notNow() {
        of("Terms", "NOT (not now, as told)");
        refused(NEW, x -> x.year(1), NOT);
        refused(NEW, x -> x.drift(1), NOT);
        refused(NEW, x -> x.returned(0), NOT);
        refused(NEW, x -> x.undo(), NOT);
        refused(NEW, x -> x.goBack(0), NOT);
        refused(RICH, x -> x.answer(1, 1), NOT);
        refused(RICH, x -> x.answer(3, 0), NOT);
    }

    private static void full() {
        of("Terms", "FULL");
        refused(x -> x.feedAll("o".repeat(240)), x -> x.feed(' '), FULL);
        refused(TermsEdges::toYear9001, x -> x.year(1), FULL);
        refused(TermsEdges::toYear9001, x -> x.drift(1), FULL);
        refused(x -> {
            RICH.accept(x);
            for (int i = 0; i < 5; i++) x.returned(i);
        }, x -> x.returned(0), FULL);
        refused(x -> {
            RICH.accept(x);
            for (int i = 0; i < 13; i++) x.write(0, i);
        }, x -> x.write(0, 0), FULL);
    }

    private static void farBelow() {
        of("Terms", "They are far below all that is counted: -1000000001 and on.");
        due(AnsweredFates.UNKNOWN, -1000000001);
        due(AnsweredFates.OUTSIDE, -1000000002);
        due(AnsweredFates.NOT, -1000000003);
        due(AnsweredFates.FULL, -1000000004);
        of("Terms", "What is refused changes nothing.");
        // all of them upon one object, one behind the other
        refused(RICH, x -> {
            x.feed(256);
            x.told(19);
            x.person(5, 0);
            x.person(0, 9);
            x.village(3, 0);
            x.village(0, 4);
            x.tell(5, 5);
            x.tell(0, 100);
            x.answer(5, 0);
            x.answer(1, 1);
            x.answer(3, 0);
            x.year(0);
            x.year(61);
            x.wit(5, 5);
            x.wit(0, 10);
            x.bear(3, 5);
            x.bear(0, 100);
            x.drift(0);
            x.drift(61);
            x.down(5, 5, 0);
            x.down(0, 100, 0);
            x.best(100);
            x.match(5);
            x.shares(0, 3);
            x.shares(1000, 0);
            x.dry(61, 0);
            x.returned(1000);
            x.write(5, 0);
            x.write(0, 10000);
            x.seed(-1);
            x.keep(2);
            return x.goBack(2);
        }, UNKNOWN);
    }

    private static void billion() {
        of("Terms", "BILLION is 1000000000.");
        due(new Called().dry(0, 0), 1000000000);
        due(new Called().dry(60, 100), 1000000000);
    }
}
