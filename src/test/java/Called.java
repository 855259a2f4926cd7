/** An object with its calls counted and put into words, so that what is due needs no words of its own. */
final class Called {
    /** The document tells no answer beyond these. */
    private static final int CALLS = 512;

    static String latest = "";

    private final AnsweredFates fates = new AnsweredFates();
    private final StringBuilder text = new StringBuilder();
    private int calls = 0;

    /** A new object with the hills of a text that has no fault. */
    static Called with(String text) {
        Called x = new Called();
        x.read(text);
        Check.due(latest + " has no fault (1)", x.fault() == Check.NONE ? 1 : 0, 1);
        return x;
    }

    void feedAll(String letters) {
        for (int i = 0; i < letters.length(); i++) feed(letters.charAt(i));
    }

    int read(String letters) {
        feedAll(letters);
        return hills();
    }

    int calls() {
        return calls;
    }

    private int note(int answer, String name, int... with) {
        calls++;
        if (calls > CALLS) Check.due("calls of one object", calls, CALLS);
        StringBuilder call = new StringBuilder(name).append('(');
        for (int i = 0; i < with.length; i++) call.append(i == 0 ? "" : ", ").append(with[i]);
        latest = call.append(')').toString();
        return answer;
    }

    int feed(int letter) {
        int answer = note(fates.feed(letter), "feed", letter);
        if (answer > 0) text.append((char) letter);
        return answer;
    }

    int hills() {
        int answer = note(fates.hills(), "hills");
        latest += " of '" + text + "'";
        text.setLength(0);
        return answer;
    }

    int fault() {
        String behind = latest;
        int answer = note(fates.fault(), "fault");
        latest += " behind " + behind;
        return answer;
    }

    int told(int what) {
        return note(fates.told(what), "told", what);
    }

    int person(int p, int what) {
        return note(fates.person(p, what), "person", p, what);
    }

    int village(int v, int what) {
        return note(fates.village(v, what), "village", v, what);
    }

    int tell(int p, int n) {
        return note(fates.tell(p, n), "tell", p, n);
    }

    int answer(int p, int q) {
        return note(fates.answer(p, q), "answer", p, q);
    }

    int year(int n) {
        return note(fates.year(n), "year", n);
    }

    int wit(int p, int w) {
        return note(fates.wit(p, w), "wit", p, w);
    }

    int bear(int v, int b) {
        return note(fates.bear(v, b), "bear", v, b);
    }

    int drift(int n) {
        return note(fates.drift(n), "drift", n);
    }

    int undo() {
        return note(fates.undo(), "undo");
    }

    int down(int p, int n, int what) {
        return note(fates.down(p, n, what), "down", p, n, what);
    }

    int best(int n) {
        return note(fates.best(n), "best", n);
    }

    int match(int p) {
        return note(fates.match(p), "match", p);
    }

    int shares(int v, int village) {
        return note(fates.shares(v, village), "shares", v, village);
    }

    int dry(int n, int q) {
        return note(fates.dry(n, q), "dry", n, q);
    }

    int returned(int v) {
        return note(fates.returned(v), "returned", v);
    }

    int write(int p, int harm) {
        return note(fates.write(p, harm), "write", p, harm);
    }

    int tear() {
        return note(fates.tear(), "tear");
    }

    int judge() {
        return note(fates.judge(), "judge");
    }

    int seed(int v) {
        return note(fates.seed(v), "seed", v);
    }

    int keep(int i) {
        return note(fates.keep(i), "keep", i);
    }

    int goBack(int i) {
        return note(fates.goBack(i), "goBack", i);
    }
}
