import java.util.Random;

/** Calls by chance, the same each time, against the model: no answer may differ and nothing may be thrown. */
public final class ModelTest {
    private static final int RUNS = 900;
    /** All that an object is used for. */
    private static final int CALLS = 512;
    /** How many calls lookAtAll() makes, and how many any other step at most. */
    private static final int LOOK = 98;
    private static final int STEP = 5;

    private final Random chance;
    private final Called x = new Called();
    private final Model y = new Model();
    private final String run;
    private int calls = 0;

    private ModelTest(int number) {
        chance = new Random(number);
        run = "run " + number + ", call ";
    }

    public static void main(String[] args) {
        for (int number = 0; number < RUNS; number++) new ModelTest(number).go();
        for (int number = 0; number < 20000; number++) new ModelTest(number).readOne();
        Check.end();
    }

    private void due(String call, int got, int want) {
        calls++;
        Check.due(run + calls + ": " + call, got, want);
    }

    private int upTo(int n) {
        return chance.nextInt(n + 1);
    }

    /** Mostly within the bounds, at times at their edges, seldom outside. */
    private int within(int low, int high) {
        int way = chance.nextInt(40);
        if (way == 0) return low - 1;
        if (way == 1) return high + 1;
        if (way == 2) return chance.nextInt();
        if (way < 6) return low;
        if (way < 9) return high;
        return low + chance.nextInt(high - low + 1);
    }

    private void feed(String text) {
        for (int i = 0; i < text.length(); i++) due("feed", x.feed(text.charAt(i)), y.feed(text.charAt(i)));
    }

    private void readHills() {
        due("hills", x.hills(), y.hills());
        due("fault", x.fault(), y.fault());
    }

    private String number(int low, int high) {
        int n = low + chance.nextInt(high - low + 1);
        return chance.nextInt(10) == 0 ? "0" + n : "" + n;
    }

    private String someHills() {
        StringBuilder text = new StringBuilder();
        text.append('o').append(number(1, 20)).append(' ').append(number(1, 9)).append(';');
        int villages = upTo(4);
        int persons = villages == 0 ? 0 : upTo(7);
        int high = chance.nextBoolean() ? 99 : 12;
        for (int v = 0; v < villages; v++) text.append('v').append(number(0, high)).append(';');
        for (int p = 0; p < persons; p++) {
            text.append('p').append(number(0, 3)).append(' ').append(number(0, villages - 1)).append(' ').append(number(1, 9));
            text.append(' ').append(chance.nextInt(4) == 0 ? "9" : number(0, 6)).append(';');
        }
        return text.toString();
    }

    /** A text with a letter or two put in, taken out or changed. */
    private String spoilt(String text) {
        StringBuilder s = new StringBuilder(text);
        for (int i = upTo(2); i >= 0; i--) {
            int at = chance.nextInt(s.length() + 1);
            char letter = "ovp; 0123456789xP\t".charAt(chance.nextInt(18));
            int way = upTo(2);
            if (way == 0) s.insert(at, letter);
            else if (at < s.length() && way == 1) s.deleteCharAt(at);
            else if (at < s.length()) s.setCharAt(at, letter);
            if (s.length() == 0) break;
        }
        return s.toString();
    }

    private void readOne() {
        String text = someHills();
        if (chance.nextInt(4) > 0) text = spoilt(text);
        if (chance.nextInt(4) == 0) text = text.substring(0, upTo(text.length()));
        feed(text);
        readHills();
        for (int what = 0; what < 4; what++) due("told", x.told(what), y.told(what));
    }

    private void go() {
        if (chance.nextInt(10) > 0) {
            feed(someHills());
            readHills();
        }
        while (hasRoomFor(STEP)) {
            if (chance.nextInt(150) == 0) otherHills();
            else if (chance.nextInt(100) == 0 && hasRoomFor(LOOK)) lookAtAll();
            else step();
        }
        lookAtAll();
    }

    /** Whether so many calls can be made, and the look at the end behind them. */
    private boolean hasRoomFor(int more) {
        return calls + more + LOOK <= CALLS;
    }

    private void otherHills() {
        String text = someHills();
        if (chance.nextInt(3) == 0) text = spoilt(text);
        if (!hasRoomFor(text.length() + 2)) return;
        feed(text);
        readHills();
    }

    private void step() {
        int way = chance.nextInt(10);
        if (way < 4) deed();
        else if (way < 7) trial();
        else if (way < 9) look();
        else record();
    }

    private void deed() {
        int p = within(0, 6);
        int q = chance.nextBoolean() ? p : within(0, 6);
        int n = within(0, 99);
        int way = chance.nextInt(20);
        if (way < 6) due("tell " + p + " " + n, x.tell(p, n), y.tell(p, n));
        else if (way < 12) due("answer " + p + " " + q, x.answer(p, q), y.answer(p, q));
        else if (way < 14) years();
        else if (way < 16) {
            int w = within(1, 9);
            due("wit " + p + " " + w, x.wit(p, w), y.wit(p, w));
        } else if (way < 18) {
            int v = within(0, 3);
            due("bear " + v + " " + n, x.bear(v, n), y.bear(v, n));
        } else if (way == 18) due("undo", x.undo(), y.undo());
        else {
            int years = within(1, 60);
            due("drift " + years, x.drift(years), y.drift(years));
        }
    }

    private void years() {
        int n = chance.nextBoolean() ? 1 : within(1, 60);
        due("year " + n, x.year(n), y.year(n));
    }

    private void trial() {
        int p = within(0, 6);
        int n = within(0, 99);
        int way = chance.nextInt(8);
        if (way < 3) {
            int what = within(0, 1);
            due("down " + p + " " + n + " " + what, x.down(p, n, what), y.down(p, n, what));
        } else if (way < 4) due("best " + n, x.best(n), y.best(n));
        else if (way < 5) {
            int m = chance.nextBoolean() ? -1 : p;
            due("match " + m, x.match(m), y.match(m));
        } else if (way < 7) {
            int v = chance.nextBoolean() ? within(0, 999) : within(0, 60);
            int village = within(0, 3);
            due("shares " + v + " " + village, x.shares(v, village), y.shares(v, village));
        } else {
            int q = within(0, 100);
            int years = within(0, 60);
            due("dry " + years + " " + q, x.dry(years, q), y.dry(years, q));
        }
    }

    private void look() {
        int way = chance.nextInt(3);
        int p = within(0, 6);
        int v = within(0, 3);
        int what = within(0, way == 0 ? 18 : way == 1 ? 8 : 3);
        if (way == 0) due("told " + what, x.told(what), y.told(what));
        else if (way == 1) due("person " + p + " " + what, x.person(p, what), y.person(p, what));
        else due("village " + v + " " + what, x.village(v, what), y.village(v, what));
    }

    private void record() {
        int way = chance.nextInt(12);
        int i = within(0, 1);
        if (way < 3) returned();
        else if (way < 5) write();
        else if (way < 7) due("judge", x.judge(), y.judge());
        else if (way == 7) due("tear", x.tear(), y.tear());
        else if (way == 8) {
            int v = chance.nextInt();
            due("seed " + v, x.seed(v), y.seed(v));
        } else if (way < 10) due("keep " + i, x.keep(i), y.keep(i));
        else due("goBack " + i, x.goBack(i), y.goBack(i));
    }

    /** Mostly what some set of villages would take, lest no set fits. */
    private void returned() {
        int sum = 0;
        for (int v = 0; v < y.told(2); v++) if (chance.nextBoolean()) sum += y.village(v, 0);
        int v = chance.nextInt(4) == 0 ? within(0, 999) : sum;
        due("returned " + v, x.returned(v), y.returned(v));
        for (int what = 13; what <= 16; what++) due("told " + what, x.told(what), y.told(what));
    }

    private void write() {
        int p = within(0, 6);
        int harm = chance.nextInt(3) == 0 || y.person(p, 5) < 0 ? within(0, 9999) : y.person(p, 5);
        due("write " + p + " " + harm, x.write(p, harm), y.write(p, harm));
    }

    private void lookAtAll() {
        for (int what = 0; what <= 18; what++) due("told " + what, x.told(what), y.told(what));
        for (int p = 0; p < 7; p++) {
            for (int what = 0; what <= 8; what++) due("person " + p + " " + what, x.person(p, what), y.person(p, what));
        }
        for (int v = 0; v < 4; v++) {
            for (int what = 0; what <= 3; what++) due("village " + v + " " + what, x.village(v, what), y.village(v, what));
        }
    }
}
