/** What every test needs: to feed a text, to compare an answer with what is due, and to end with the count. */
final class Check {
    static final int NONE = -1;
    static final int UNKNOWN = -1000000001;
    static final int OUTSIDE = -1000000002;
    static final int NOT = -1000000003;
    static final int FULL = -1000000004;

    /** Patience 6, step 4; villages that bear 20, 9, 30; a ring of 0 and 1, 3 from 2, 4 from itself. */
    static final String HILLS = "o6 4;v20;v9;v30;p0 0 5 1;p1 0 2 0;p2 1 9 9;p3 1 3 2;p0 2 1 4;";

    private static int wrong = 0;
    private static int seen = 0;

    private Check() {
    }

    static void due(String what, int got, int want) {
        seen++;
        if (got == want) return;
        wrong++;
        System.out.println(what + " answered " + got + ", due is " + want);
    }

    static void feed(Called x, String text) {
        for (int i = 0; i < text.length(); i++) due("feed of " + text + " at " + i, x.feed(text.charAt(i)), i + 1);
    }

    /** A new object with the hills of a text that has no fault. */
    static Called with(String text) {
        Called x = new Called();
        feed(x, text);
        int persons = 0;
        for (int i = 0; i < text.length(); i++) if (text.charAt(i) == 'p') persons++;
        due("hills of " + text, x.hills(), persons);
        return x;
    }

    static Called withHills() {
        return with(HILLS);
    }

    /** What can be seen of an object without changing it, but for the fault of its latest text. */
    static String seen(Called x) {
        StringBuilder all = new StringBuilder();
        for (int what = 0; what <= 18; what++) all.append(x.told(what)).append(' ');
        for (int p = 0; p < 7; p++) for (int what = 0; what <= 8; what++) all.append(x.person(p, what)).append(' ');
        for (int v = 0; v < 4; v++) for (int what = 0; what <= 3; what++) all.append(x.village(v, what)).append(' ');
        return all.append(x.judge()).toString();
    }

    static void same(String what, String got, String want) {
        due(what + " (1)", got.equals(want) ? 1 : 0, 1);
    }

    /** What was refused since then has changed nothing. */
    static void unchanged(Called x, String before) {
        same("what was refused changed nothing", seen(x), before);
    }

    static void end() {
        System.out.println(wrong == 0 ? seen + " answers are as due" : wrong + " of " + seen + " answers are not as due");
        if (wrong != 0) System.exit(1);
    }
}
