/** "What it is" and "Not promised": the document's first lines as one run, worked out by hand. */
final class StoryEdges extends Edge {
    /** A shepherd and an old woman who had it from him, two who had it from one another, and one over the range. */
    private static final String STORY = "o6 4; v20; v9; v30; p0 0 5 9; p3 0 4 0; p1 1 2 3; p2 1 3 2; p0 2 1 0;";

    static void run() {
        Called x = new Called();
        text(x);
        bargains(x);
        owed(x);
        years(x);
        went(x);
        others(x);
        later(x);
        noEdge("Not promised", "How the state is held inside the object is free, as are the speed of each call, the text of toString and "
                + "the behaviour of equals and hashCode. Use of one object from several threads at once is not promised to be safe.");
        twoObjects();
    }

    private static void text(Called x) {
        of("What it is", "villages, persons by how they bargain, fates told in a text with the first fault");
        due(x.read("o6 4; v20; w"), -11);
        due(x.fault(), 11);
        due(x.read(STORY), 5);
        due(x.fault(), NONE);
        due(x.told(2), 3);
        int[] kinds = {0, 3, 1, 2, 0};
        for (int p = 0; p < 5; p++) due(x.person(p, 0), kinds[p]);
    }

    private static void bargains(Called x) {
        of("What it is", "how far down one gets by turns, when both sit still");
        // 35, 30, 25 and 4 more, 24, 19, 14
        due(x.down(0, 40, 0), 14);
        due(x.down(0, 40, 1), 6);
        // 30, 20, 10 and 4 more, 4, 0
        due(x.down(1, 40, 0), 0);
        due(x.down(1, 40, 1), 5);
        due(x.person(1, 6), 56);
        of("What it is", "fates told, answered back, women who go up");
        due(x.tell(0, 40), 0);
        of("What it is", "who is better off, who goes up for whom so that least befalls");
        due(x.best(40), 1);
        due(x.match(0), 1);
        due(x.match(NONE), 0);
        due(x.answer(0, 1), 0);
        due(x.told(0), 5);
        due(x.told(9), 2);
    }

    private static void owed(Called x) {
        of("What it is", "what is owed over all");
        due(x.told(6), 40);
        of("What it is", "what each would have");
        int[] had = {0, 9, 30};
        for (int v = 0; v < 3; v++) due(x.village(v, 2), had[v]);
        of("What it is", "how long till it is made up");
        due(x.told(10), 0);
        due(x.told(11), 2);
        of("What it is", "shares that each can bear");
        int[] shares = {10, 9, 11};
        for (int v = 0; v < 3; v++) due(x.shares(30, v), shares[v]);
    }

    private static void years(Called x) {
        of("What it is", "years in which what is told befalls and what was got off falls on those untold, undone");
        due(x.tell(2, 7), 0);
        // village 1 takes nothing now, the one over the range all that it can bear
        due(x.year(1), 10);
        int[] harm = {0, 0, 7, 0, 30};
        for (int p = 0; p < 5; p++) due(x.person(p, 5), harm[p]);
        due(x.undo(), 3);
        due(x.undo(), 2);
        due(x.year(1), 1);
        int[] then = {0, 0, 4, 4, 30};
        for (int p = 0; p < 5; p++) due(x.person(p, 5), then[p]);
        due(x.year(1), 0);
        of("What it is", "who is worst off");
        due(x.told(12), 4);
    }

    private static void went(Called x) {
        of("What it is", "to which village it went, by returns: all that fits, which return to ask for next");
        due(x.told(14), 8);
        due(x.told(15), 0);
        due(x.told(16), 0);
        due(x.returned(39), 1);
        due(x.told(14), 1);
        due(x.told(15), 6);
        due(x.told(16), NONE);
    }

    private static void others(Called x) {
        of("What it is", "the ring of those who had it from one another");
        due(x.person(2, 7), 2);
        due(x.person(3, 7), 2);
        due(x.person(4, 7), NONE);
        due(x.person(4, 8), 0);
        of("What it is", "odds of a dry year");
        due(x.dry(1, 90), 900000000);
        due(x.dry(3, 90), 729000000);
        of("What it is", "ledgers judged");
        due(x.write(4, 30), 1);
        due(x.judge(), NONE);
        due(x.write(3, 5), 2);
        due(x.judge(), 1);
    }

    private static void later(Called x) {
        of("What it is", "years by draws; images to go on from.");
        due(x.seed(5), 0);
        due(x.keep(1), 1);
        x.drift(20);
        due(x.told(5), 22);
        int worst = x.told(12);
        int harm = x.person(worst, 5);
        due(x.goBack(1), 1);
        due(x.told(5), 2);
        due(x.person(4, 5), 30);
        x.drift(20);
        due(x.told(12), worst);
        due(x.person(worst, 5), harm);
    }

    private static void twoObjects() {
        of("Not promised", "Nothing is promised beyond the answers and state changes described above, and nothing about an object after its 512th call.");
        // what is done to one changes no other
        Called x = new Called();
        Called y = new Called();
        RICH.accept(x);
        String before = shown(x);
        RICH.accept(y);
        y.year(60);
        y.tear();
        y.read("o1 1;");
        same("one object leaves the other alone", shown(x), before);
    }
}
