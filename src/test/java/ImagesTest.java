/** Promises 24 to 26: the seed, and images. */
public final class ImagesTest {
    public static void main(String[] args) {
        constants();
        seeds();
        keeping();
        goingBack();
        imagesKeepTheSeed();
        Check.end();
    }

    private static void constants() {
        Check.due("NONE", AnsweredFates.NONE, -1);
        Check.due("UNKNOWN", AnsweredFates.UNKNOWN, -1000000001);
        Check.due("OUTSIDE", AnsweredFates.OUTSIDE, -1000000002);
        Check.due("NOT", AnsweredFates.NOT, -1000000003);
        Check.due("FULL", AnsweredFates.FULL, -1000000004);
    }

    private static void seeds() {
        Called x = new Called();
        Check.due("seed(2147483647)", x.seed(2147483647), 0);
        Check.due("seed(-1)", x.seed(-1), Check.OUTSIDE);
        Check.due("seed(least)", x.seed(Integer.MIN_VALUE), Check.OUTSIDE);
        Check.due("seed(0)", x.seed(0), 2147483647);
        Check.due("seed(1)", x.seed(1), 0);
        x = Check.withHills();
        x.drift(1);
        // 0, 12345, 1406932606, 654583775
        Check.due("behind three draws from 0", x.seed(0), 654583775);
        x.seed(8);
        Check.due("seed() cannot be undone", x.told(18), 1);
    }

    private static void keeping() {
        Called x = Check.withHills();
        x.tell(0, 5);
        String before = Check.seen(x);
        Check.due("keep(2)", x.keep(2), Check.UNKNOWN);
        Check.due("keep(-1)", x.keep(-1), Check.UNKNOWN);
        Check.due("goBack(2)", x.goBack(2), Check.UNKNOWN);
        Check.due("goBack(-1)", x.goBack(-1), Check.UNKNOWN);
        Check.due("goBack(0)", x.goBack(0), Check.NOT);
        Check.due("goBack(1)", x.goBack(1), Check.NOT);
        Check.unchanged(x, before);
        Check.due("keep(1)", x.keep(1), 1);
        Check.due("nothing can be undone", x.undo(), Check.NOT);
        Check.due("the fate is as it was", x.person(0, 4), 5);
        Check.due("goBack(0), not kept", x.goBack(0), Check.NOT);
    }

    private static Called keptOnce() {
        Called x = Check.withHills();
        x.tell(0, 90);
        x.answer(0, 3);
        x.wit(2, 1);
        x.bear(1, 77);
        x.keep(0);
        return x;
    }

    private static Called keptTwice() {
        Called x = keptOnce();
        x.year(1);
        x.tell(1, 70);
        x.keep(1);
        return x;
    }

    private static void goingBack() {
        String first = Check.seen(keptOnce());
        String second = Check.seen(keptTwice());
        Called x = keptTwice();
        x.drift(5);
        x.wit(0, 1);
        Check.due("goBack(0)", x.goBack(0), 1);
        Check.same("as it was first", Check.seen(x), first);
        Check.due("nothing can be undone", x.undo(), Check.NOT);
        x.tell(0, 1);
        Check.due("goBack(1)", x.goBack(1), 1);
        Check.same("as it was second", Check.seen(x), second);
        Check.due("goBack(0) again", x.goBack(0), 1);
        Check.same("as it was first, again", Check.seen(x), first);
        x.tell(4, 44);
        x.keep(0);
        x.tell(4, 1);
        Check.due("goBack(0) to the latest", x.goBack(0), 1);
        Check.due("the fate kept last", x.person(4, 4), 44);
        x.returned(9);
        x.write(0, 3);
        x.goBack(1);
        Check.due("returns stay", x.told(13), 1);
        Check.due("the book stays", x.told(17), 1);
    }

    private static void imagesKeepTheSeed() {
        Called x = Check.withHills();
        x.seed(41);
        x.keep(0);
        x.drift(9);
        x.keep(1);
        String then = Check.seen(x);
        int seed = x.seed(0);
        x.goBack(0);
        Check.due("the seed kept", x.seed(41), 41);
        x.drift(9);
        x.keep(0);
        Check.same("the same years by draws", Check.seen(x), then);
        Check.due("the same seed", x.seed(0), seed);
        x.goBack(1);
        Check.due("the other seed kept", x.seed(0), seed);
    }
}
