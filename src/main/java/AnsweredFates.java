import java.util.Arrays;

/** Fates that are told, answered back, got off, and made up to those who were told nothing. */
public final class AnsweredFates {
    public static final int NONE = -1, UNKNOWN = -1000000001, OUTSIDE = -1000000002, NOT = -1000000003, FULL = -1000000004;

    private static final int MAX_LETTERS = 240;
    private static final int MAX_VILLAGES = 4;
    private static final int MAX_PERSONS = 7;
    private static final int MAX_PATIENCE = 20;
    private static final int MAX_STEP = 9;
    private static final int MAX_BEAR = 99;
    private static final int MAX_WIT = 9;
    private static final int MAX_FATE = 99;
    private static final int MAX_SUM = 9999;
    private static final int MAX_YEARS = 60;
    private static final int LAST_YEAR = 9000;
    private static final int MAX_AMOUNT = 999;
    private static final int MAX_RETURNS = 6;
    private static final int MAX_ENTRIES = 15;
    private static final int MAX_UNDONE = 16;
    private static final int IMAGES = 2;
    private static final int BILLION = 1000000000;

    private final Reader reader = new Reader();
    private final Course course = new Course();
    private final Past past = new Past();
    private final Images images = new Images();
    private final Draws draws = new Draws();
    private final Returns returns = new Returns();
    private final Book book = new Book();
    private final Matching matching = new Matching();
    private Hills draft = new Hills();

    public AnsweredFates() {
        // every row begins at zero, which is to have no hills
    }

    // ---- the hills

    public int feed(int letter) {
        if (letter < 0 || letter > 255) return OUTSIDE;
        if (reader.length >= MAX_LETTERS) return FULL;
        reader.append(letter);
        return reader.length;
    }

    public int hills() {
        reader.read(draft);
        if (reader.fault != 0) return -10 - reader.fault;
        Hills old = course.hills;
        course.hills = draft;
        draft = old;
        course.now.begin(course.hills);
        past.forget();
        images.forget();
        returns.size = 0;
        book.size = 0;
        return course.hills.persons;
    }

    public int fault() {
        return reader.faultAt;
    }

    public int told(int what) {
        State now = course.now;
        switch (what) {
            case 0: return now.patience;
            case 1: return course.hills.step;
            case 2: return course.hills.villages;
            case 3: return course.hills.persons;
            case 4: return reader.length;
            case 5: return now.years;
            case 6: return now.owed;
            case 7: return course.fateful();
            case 8: return course.untold();
            case 9: return now.wentUp;
            case 10: return course.isBorne() ? 1 : 0;
            case 11: return course.madeUp();
            case 12: return course.worst();
            case 13: return returns.size;
            case 14: return returns.countSets(course.hills);
            case 15: return returns.inEach(course.hills);
            case 16: return returns.ask(course.hills);
            case 17: return book.size;
            case 18: return past.size;
            default: return OUTSIDE;
        }
    }

    public int person(int p, int what) {
        if (!course.isPerson(p)) return UNKNOWN;
        switch (what) {
            case 0: return course.hills.kind[p];
            case 1: return course.hills.home[p];
            case 2: return course.now.wit[p];
            case 3: return course.hills.from[p];
            case 4: return course.now.fate[p];
            case 5: return course.now.harm[p];
            case 6: return course.rid(p);
            case 7: return course.hills.ringOf(p);
            case 8: return course.hills.firstOf(p);
            default: return OUTSIDE;
        }
    }

    public int village(int v, int what) {
        if (!course.isVillage(v)) return UNKNOWN;
        switch (what) {
            case 0: return course.now.bear[v];
            case 1: return course.hills.people[v];
            case 2: return course.had(v);
            case 3: return course.harmIn(v);
            default: return OUTSIDE;
        }
    }

    // ---- what is done

    public int tell(int p, int n) {
        if (!course.isPerson(p)) return UNKNOWN;
        if (n < 0 || n > MAX_FATE) return OUTSIDE;
        past.remember(course.now);
        int was = course.now.fate[p];
        course.foretell(p, n);
        return was;
    }

    public int answer(int p, int q) {
        if (!course.isPerson(p) || !course.isPerson(q)) return UNKNOWN;
        if (!course.canAnswer(p, q)) return NOT;
        past.remember(course.now);
        course.answerBack(p, q);
        return course.now.fate[p];
    }

    public int year(int n) {
        int refusal = refuseYears(n);
        if (refusal != 0) return refusal;
        past.remember(course.now);
        for (int i = 0; i < n; i++) course.passYear();
        return course.now.owed;
    }

    public int wit(int p, int w) {
        if (!course.isPerson(p)) return UNKNOWN;
        if (w < 1 || w > MAX_WIT) return OUTSIDE;
        past.remember(course.now);
        int was = course.now.wit[p];
        course.now.wit[p] = w;
        return was;
    }

    public int bear(int v, int b) {
        if (!course.isVillage(v)) return UNKNOWN;
        if (b < 0 || b > MAX_BEAR) return OUTSIDE;
        past.remember(course.now);
        int was = course.now.bear[v];
        course.now.bear[v] = b;
        return was;
    }

    public int drift(int n) {
        int refusal = refuseYears(n);
        if (refusal != 0) return refusal;
        past.remember(course.now);
        for (int i = 0; i < n; i++) {
            course.actByDraws(draws);
            course.passYear();
        }
        return course.now.owed;
    }

    public int undo() {
        if (past.size == 0) return NOT;
        past.restore(course.now);
        return past.size;
    }

    // ---- tried

    public int down(int p, int n, int what) {
        if (!course.isPerson(p)) return UNKNOWN;
        if (n < 0 || n > MAX_FATE || what < 0 || what > 1) return OUTSIDE;
        course.bargainBy(p, n);
        return what == 0 ? course.bargain.left : course.bargain.turns;
    }

    public int best(int n) {
        if (n < 0 || n > MAX_FATE) return OUTSIDE;
        return course.bestFor(n);
    }

    public int match(int p) {
        if (p != NONE && !course.isPerson(p)) return UNKNOWN;
        matching.work(course);
        return p == NONE ? matching.total() : matching.goer[p];
    }

    public int shares(int v, int village) {
        if (!course.isVillage(village)) return UNKNOWN;
        if (v < 0 || v > MAX_AMOUNT) return OUTSIDE;
        return course.shareOf(v, village);
    }

    public int dry(int n, int q) {
        if (n < 0 || n > MAX_YEARS || q < 0 || q > 100) return OUTSIDE;
        long odds = BILLION;
        for (int i = 0; i < n; i++) odds = odds * q / 100;
        return (int) odds;
    }

    // ---- returns

    public int returned(int v) {
        if (v < 0 || v > MAX_AMOUNT) return OUTSIDE;
        if (!course.hills.there) return NOT;
        if (returns.size >= MAX_RETURNS) return FULL;
        returns.add(v, course.now.bear);
        return returns.size;
    }

    public int write(int p, int harm) {
        if (!course.isPerson(p)) return UNKNOWN;
        if (harm < 0 || harm > MAX_SUM) return OUTSIDE;
        if (book.size >= MAX_ENTRIES) return FULL;
        book.add(p, harm);
        return book.size;
    }

    public int tear() {
        int both = returns.size + book.size;
        returns.size = 0;
        book.size = 0;
        return both;
    }

    public int judge() {
        return book.firstFalse(course.now.harm);
    }

    // ---- draws, images

    public int seed(int v) {
        if (v < 0) return OUTSIDE;
        int was = draws.seed;
        draws.seed = v;
        return was;
    }

    public int keep(int i) {
        if (i < 0 || i >= IMAGES) return UNKNOWN;
        images.take(i, course.now, draws.seed);
        past.forget();
        return 1;
    }

    public int goBack(int i) {
        if (i < 0 || i >= IMAGES) return UNKNOWN;
        if (!images.kept[i]) return NOT;
        course.now.copyFrom(images.states[i]);
        draws.seed = images.seeds[i];
        past.forget();
        return 1;
    }

    /** What speaks against n years now; 0 if nothing does. */
    private int refuseYears(int n) {
        if (n < 1 || n > MAX_YEARS) return OUTSIDE;
        if (!course.hills.there) return NOT;
        return course.now.years > LAST_YEAR ? FULL : 0;
    }

    /** What a text tells, and what no call but the next text changes. */
    private static final class Hills {
        boolean there;
        int patience;
        int step;
        int villages;
        int persons;
        final int[] kind = new int[MAX_PERSONS];
        final int[] home = new int[MAX_PERSONS];
        final int[] wit = new int[MAX_PERSONS];
        final int[] from = new int[MAX_PERSONS];
        final int[] bear = new int[MAX_VILLAGES];
        final int[] people = new int[MAX_VILLAGES];

        void clear() {
            there = false;
            patience = 0;
            step = 0;
            villages = 0;
            persons = 0;
            Arrays.fill(people, 0);
        }

        void addVillage(int canBear) {
            if (villages >= MAX_VILLAGES) return;
            bear[villages] = canBear;
            villages++;
        }

        void addPerson(int itsKind, int itsHome, int itsWit, int itsFrom) {
            if (persons >= MAX_PERSONS || itsHome < 0 || itsHome >= villages) return;
            kind[persons] = itsKind;
            home[persons] = itsHome;
            wit[persons] = itsWit;
            from[persons] = itsFrom;
            people[itsHome] |= 1 << persons;
            persons++;
        }

        /** Only at the end is it known which persons there are to have had it from. */
        void settleFrom() {
            for (int p = 0; p < persons; p++) {
                if (from[p] >= persons) from[p] = NONE;
            }
        }

        int everybody() {
            return (1 << persons) - 1;
        }

        /** As many steps as there are persons lead surely into the ring, if there is one. */
        int ringOf(int p) {
            int inRing = p;
            for (int i = 0; i < persons && inRing != NONE; i++) inRing = from[inRing];
            if (inRing == NONE) return NONE;
            int size = 1;
            for (int x = from[inRing]; x != inRing && x != NONE && size < persons; x = from[x]) size++;
            return size;
        }

        int firstOf(int p) {
            int x = p;
            for (int i = 0; i < persons; i++) {
                if (from[x] == NONE) return x;
                x = from[x];
            }
            return NONE;
        }
    }

    /** The text, letter by letter, and its reading; the first fault ends the reading. */
    private static final class Reader {
        private final int[] text = new int[MAX_LETTERS];
        int length;
        int fault;
        int faultAt = NONE;
        private int at;
        private int numberAt;

        void append(int letter) {
            if (length >= MAX_LETTERS) return;
            text[length] = letter;
            length++;
        }

        void read(Hills into) {
            into.clear();
            fault = 0;
            faultAt = NONE;
            at = 0;
            skipBlanks();
            for (int clauses = 0; clauses < MAX_LETTERS && at < length && fault == 0; clauses++) {
                readClause(into);
                skipBlanks();
            }
            into.settleFrom();
            length = 0;
        }

        private void readClause(Hills into) {
            int word = letter();
            int wrong = faultOfWord(word, into);
            if (wrong != 0) {
                fail(wrong, at);
                return;
            }
            at++;
            if (word == 'o') readOracle(into);
            else if (word == 'v') readVillage(into);
            else readPerson(into);
        }

        private static int faultOfWord(int word, Hills into) {
            if (!into.there) return word == 'o' ? 0 : 1;
            if (word == 'o') return 3;
            if (word == 'v') return into.villages < MAX_VILLAGES ? 0 : 3;
            if (word == 'p') return into.persons < MAX_PERSONS ? 0 : 3;
            return 1;
        }

        private void readOracle(Hills into) {
            into.patience = readNumber(1, MAX_PATIENCE);
            into.step = readNumber(1, MAX_STEP);
            readEnd();
            into.there = true;
        }

        private void readVillage(Hills into) {
            int canBear = readNumber(0, MAX_BEAR);
            readEnd();
            into.addVillage(canBear);
        }

        private void readPerson(Hills into) {
            int kind = readNumber(0, 3);
            int home = readNumber(0, into.villages - 1);
            int wit = readNumber(1, MAX_WIT);
            int from = readNumber(0, 9);
            if (from == 7 || from == 8) fail(2, numberAt);
            readEnd();
            if (fault == 0) into.addPerson(kind, home, wit, from);
        }

        private int readNumber(int low, int high) {
            if (fault != 0) return 0;
            skipBlanks();
            numberAt = at;
            int value = 0;
            while (at < length && isFigure(letter())) {
                // four figures are a fault whatever their value, which is left as it is lest it overflow
                if (at - numberAt < 4) value = value * 10 + letter() - '0';
                at++;
            }
            int figures = at - numberAt;
            if (figures == 0) fail(1, numberAt);
            else if (figures > 3 || value < low || value > high) fail(2, numberAt);
            return value;
        }

        private void readEnd() {
            if (fault != 0) return;
            skipBlanks();
            if (at < length && letter() == ';') at++;
            else fail(1, at);
        }

        private void skipBlanks() {
            if (fault != 0) return;
            while (at < length && letter() == ' ') at++;
        }

        private static boolean isFigure(int letter) {
            return letter >= '0' && letter <= '9';
        }

        private int letter() {
            return at >= 0 && at < length && at < MAX_LETTERS ? text[at] : NONE;
        }

        /** The first that is found stands furthest ahead, since reading goes forward. */
        private void fail(int number, int place) {
            if (fault != 0) return;
            fault = number;
            faultAt = place;
        }
    }

    /** How things stand: what is undone and what an image keeps. */
    private static final class State {
        int patience;
        int owed;
        int years;
        int toldThisYear;
        int wentUp;
        final int[] fate = new int[MAX_PERSONS];
        final int[] harm = new int[MAX_PERSONS];
        final int[] wit = new int[MAX_PERSONS];
        final int[] bear = new int[MAX_VILLAGES];

        void begin(Hills hills) {
            patience = hills.patience;
            owed = 0;
            years = 0;
            toldThisYear = 0;
            wentUp = 0;
            Arrays.fill(fate, 0);
            Arrays.fill(harm, 0);
            System.arraycopy(hills.wit, 0, wit, 0, MAX_PERSONS);
            System.arraycopy(hills.bear, 0, bear, 0, MAX_VILLAGES);
        }

        void copyFrom(State other) {
            patience = other.patience;
            owed = other.owed;
            years = other.years;
            toldThisYear = other.toldThisYear;
            wentUp = other.wentUp;
            System.arraycopy(other.fate, 0, fate, 0, MAX_PERSONS);
            System.arraycopy(other.harm, 0, harm, 0, MAX_PERSONS);
            System.arraycopy(other.wit, 0, wit, 0, MAX_PERSONS);
            System.arraycopy(other.bear, 0, bear, 0, MAX_VILLAGES);
        }

        void hurt(int p, int by) {
            harm[p] = Math.min(MAX_SUM, harm[p] + by);
        }
    }

    /** A bargain over a fate: what is left of it, and in how many turns of the one who went up. */
    private static final class Bargain {
        int left;
        int turns;

        void hold(int fate, int kind, int wit, int patience, int step) {
            left = fate;
            turns = 0;
            for (int t = 0; t < patience && left > 0; t++) {
                left = Math.max(0, left - gotOff(kind, wit, step, t));
                turns = t + 1;
                boolean goesOn = turns < patience && left > 0;
                if (goesOn && t % 3 == 2) left = Math.min(MAX_FATE, left + step);
            }
        }

        private static int gotOff(int kind, int wit, int step, int t) {
            switch (kind) {
                case 1: return wit + t;
                case 2: return t % 2 == 0 ? wit : 0;
                case 3: return 2 * wit + step / 2;
                default: return wit;
            }
        }
    }

    /** The hills and how things stand in them: what is done there, and what is only tried. */
    private static final class Course {
        Hills hills = new Hills();
        final State now = new State();
        final Bargain bargain = new Bargain();

        boolean isPerson(int p) {
            return p >= 0 && p < hills.persons;
        }

        boolean isVillage(int v) {
            return v >= 0 && v < hills.villages;
        }

        int untold() {
            return hills.everybody() & ~now.toldThisYear;
        }

        int fateful() {
            int set = 0;
            for (int p = 0; p < hills.persons; p++) {
                if (now.fate[p] > 0) set |= 1 << p;
            }
            return set;
        }

        boolean canGoUp(int q) {
            return (now.wentUp >> q & 1) == 0;
        }

        boolean canAnswer(int p, int q) {
            return now.fate[p] > 0 && canGoUp(q);
        }

        void bargainBy(int q, int fate) {
            bargain.hold(fate, hills.kind[q], now.wit[q], now.patience, hills.step);
        }

        int leftBy(int q, int fate) {
            bargainBy(q, fate);
            return bargain.left;
        }

        void foretell(int p, int fate) {
            now.fate[p] = fate;
            now.toldThisYear |= 1 << p;
        }

        void answerBack(int p, int q) {
            int left = leftBy(q, now.fate[p]);
            int gotOff = Math.max(0, now.fate[p] - left);
            now.fate[p] = left;
            now.owed = Math.min(MAX_SUM, now.owed + gotOff);
            now.patience = Math.max(1, now.patience - 1);
            now.wentUp |= 1 << q;
        }

        void passYear() {
            for (int p = 0; p < hills.persons; p++) {
                now.hurt(p, now.fate[p]);
                now.fate[p] = 0;
            }
            for (int v = 0; v < hills.villages; v++) {
                int taken = taken(v, now.owed);
                hurtVillage(v, taken);
                now.owed -= taken;
            }
            now.toldThisYear = 0;
            now.wentUp = 0;
            now.patience = hills.patience;
            now.years++;
        }

        private void hurtVillage(int v, int taken) {
            int count = Integer.bitCount(hills.people[v]);
            if (count == 0) return;
            int part = taken / count;
            for (int p = 0; p < hills.persons; p++) {
                if (hills.home[p] == v) now.hurt(p, part);
            }
        }

        /** All three draws are made whatever the first one says, so that the seed goes on alike. */
        void actByDraws(Draws draws) {
            if (hills.persons == 0) return;
            int deed = draws.next(4);
            int p = draws.next(hills.persons);
            int last = draws.next(100);
            if (!isPerson(p)) return;
            if (deed <= 1) foretell(p, last);
            else if (deed == 3) now.wit[p] = last % 9 + 1;
            else if (canAnswer(p, p)) answerBack(p, p);
        }

        private int canTake(int v, int untold) {
            int people = hills.people[v];
            return people != 0 && (people & ~untold) == 0 ? now.bear[v] : 0;
        }

        private int taken(int v, int owed) {
            return Math.min(owed, canTake(v, untold()));
        }

        private int canTakeTogether(int untold) {
            int sum = 0;
            for (int v = 0; v < hills.villages; v++) sum += canTake(v, untold);
            return sum;
        }

        int had(int village) {
            int owed = now.owed;
            for (int v = 0; v < village; v++) owed -= taken(v, owed);
            return taken(village, owed);
        }

        boolean isBorne() {
            return now.owed <= canTakeTogether(untold());
        }

        /** Only this year has persons who were told; from the next on all are untold. */
        int madeUp() {
            int owed = now.owed;
            int later = canTakeTogether(hills.everybody());
            for (int years = 0; years <= MAX_YEARS; years++) {
                if (owed <= 0) return years;
                owed -= years == 0 ? canTakeTogether(untold()) : later;
            }
            return NONE;
        }

        /** Of a lesser fate never more is left than of a greater one, so the steps up can be halved. */
        int rid(int p) {
            int greatest = 0;
            for (int step = 64; step > 0; step /= 2) {
                int higher = greatest + step;
                if (higher <= MAX_FATE && leftBy(p, higher) == 0) greatest = higher;
            }
            return greatest;
        }

        int bestFor(int fate) {
            int best = NONE;
            int least = MAX_FATE + 1;
            for (int q = 0; q < hills.persons; q++) {
                if (!canGoUp(q)) continue;
                int left = leftBy(q, fate);
                if (left < least) {
                    least = left;
                    best = q;
                }
            }
            return best;
        }

        int worst() {
            int worst = NONE;
            int most = -1;
            for (int p = 0; p < hills.persons; p++) {
                if (now.harm[p] > most) {
                    most = now.harm[p];
                    worst = p;
                }
            }
            return worst;
        }

        int harmIn(int v) {
            int sum = 0;
            for (int p = 0; p < hills.persons; p++) {
                if (hills.home[p] == v) sum += now.harm[p];
            }
            return sum;
        }

        /** A village has only what those behind it cannot take under the least ceiling that serves. */
        int shareOf(int amount, int village) {
            int ceiling = leastCeiling(amount);
            if (ceiling == NONE) return NONE;
            int rest = amount;
            for (int v = 0; v < village; v++) rest -= shareAhead(rest, v, ceiling);
            return shareAhead(rest, village, ceiling);
        }

        private int shareAhead(int rest, int v, int ceiling) {
            return Math.max(0, rest - roomFrom(v + 1, ceiling));
        }

        private int leastCeiling(int amount) {
            for (int ceiling = 0; ceiling <= MAX_BEAR; ceiling++) {
                if (roomFrom(0, ceiling) >= amount) return ceiling;
            }
            return NONE;
        }

        private int roomFrom(int first, int ceiling) {
            int room = 0;
            for (int v = first; v < hills.villages; v++) room += Math.min(ceiling, now.bear[v]);
            return room;
        }
    }

    /** Who goes up for whom so that least is left: person by person, over the sets of those who are spent. */
    private static final class Matching {
        private static final int SETS = 1 << MAX_PERSONS;

        final int[] goer = new int[MAX_PERSONS];
        private final int[] kept = new int[MAX_PERSONS];
        private final int[] left = new int[MAX_PERSONS * MAX_PERSONS];
        private final int[] least = new int[(MAX_PERSONS + 1) * SETS];
        private int persons;

        void work(Course course) {
            persons = course.hills.persons;
            tryAll(course);
            for (int spent = 0; spent < 1 << persons; spent++) least[persons * SETS + spent] = 0;
            for (int p = persons - 1; p >= 0; p--) {
                for (int spent = 0; spent < 1 << persons; spent++) least[p * SETS + spent] = leastFrom(p, spent);
            }
            choose();
        }

        int total() {
            return least[0];
        }

        /** What p keeps if nobody goes up, and what is left if q does; NONE: q cannot. */
        private void tryAll(Course course) {
            for (int p = 0; p < persons; p++) {
                kept[p] = course.now.fate[p];
                for (int q = 0; q < persons; q++) {
                    left[p * MAX_PERSONS + q] = course.canAnswer(p, q) ? course.leftBy(q, kept[p]) : NONE;
                }
            }
        }

        private int leastFrom(int p, int spent) {
            int best = kept[p] + least[(p + 1) * SETS + spent];
            for (int q = 0; q < persons; q++) {
                if (mayGo(p, q, spent)) best = Math.min(best, leftWith(p, q, spent));
            }
            return best;
        }

        private boolean mayGo(int p, int q, int spent) {
            return (spent >> q & 1) == 0 && left[p * MAX_PERSONS + q] != NONE;
        }

        private int leftWith(int p, int q, int spent) {
            return left[p * MAX_PERSONS + q] + least[(p + 1) * SETS + (spent | 1 << q)];
        }

        private void choose() {
            int spent = 0;
            for (int p = 0; p < persons; p++) {
                goer[p] = firstGoer(p, spent);
                if (goer[p] != NONE) spent |= 1 << goer[p];
            }
        }

        private int firstGoer(int p, int spent) {
            for (int q = 0; q < persons; q++) {
                if (mayGo(p, q, spent) && leftWith(p, q, spent) == least[p * SETS + spent]) return q;
            }
            return NONE;
        }
    }

    /** What was taken together, each time with what every village could bear then. */
    private static final class Returns {
        int size;
        private final int[] amount = new int[MAX_RETURNS];
        private final int[] bear = new int[MAX_RETURNS * MAX_VILLAGES];

        void add(int v, int[] bearNow) {
            if (size >= MAX_RETURNS) return;
            amount[size] = v;
            System.arraycopy(bearNow, 0, bear, size * MAX_VILLAGES, MAX_VILLAGES);
            size++;
        }

        private static int setsOf(Hills hills) {
            return hills.there ? 1 << hills.villages : 0;
        }

        private boolean fits(int set) {
            for (int r = 0; r < size; r++) {
                if (takenBy(set, r) != amount[r]) return false;
            }
            return true;
        }

        private int takenBy(int set, int r) {
            int sum = 0;
            for (int v = 0; v < MAX_VILLAGES; v++) {
                if ((set >> v & 1) != 0) sum += bear[r * MAX_VILLAGES + v];
            }
            return sum;
        }

        int countSets(Hills hills) {
            return countWith(hills, 0);
        }

        /** How many sets fit that have all of these villages. */
        private int countWith(Hills hills, int villages) {
            int count = 0;
            for (int set = 0; set < setsOf(hills); set++) {
                if ((set & villages) == villages && fits(set)) count++;
            }
            return count;
        }

        int inEach(Hills hills) {
            int common = NONE;
            for (int set = 0; set < setsOf(hills); set++) {
                // NONE has all bits, so the first set that fits is what is common so far
                if (fits(set)) common &= set;
            }
            return common;
        }

        int ask(Hills hills) {
            int all = countSets(hills);
            int best = NONE;
            int least = all;
            for (int v = 0; v < hills.villages; v++) {
                int in = countWith(hills, 1 << v);
                int greater = Math.max(in, all - in);
                if (greater < least) {
                    least = greater;
                    best = v;
                }
            }
            return best;
        }
    }

    /** What is said of the harm of persons. */
    private static final class Book {
        int size;
        private final int[] person = new int[MAX_ENTRIES];
        private final int[] harm = new int[MAX_ENTRIES];

        void add(int p, int said) {
            if (size >= MAX_ENTRIES) return;
            person[size] = p;
            harm[size] = said;
            size++;
        }

        int firstFalse(int[] harmNow) {
            for (int i = 0; i < size; i++) {
                if (harmNow[person[i]] != harm[i]) return i;
            }
            return NONE;
        }
    }

    /** The seed and what is drawn from it. */
    private static final class Draws {
        int seed;

        int next(int n) {
            seed = (int) ((seed * 1103515245L + 12345L) & 0x7fffffffL);
            return n > 0 ? seed / 65536 % n : 0;
        }
    }

    /** How things stood ahead of the latest deeds; a ring, since the oldest are lost. */
    private static final class Past {
        int size;
        private int oldest;
        private final State[] states = new State[MAX_UNDONE];

        Past() {
            for (int i = 0; i < MAX_UNDONE; i++) states[i] = new State();
        }

        void remember(State now) {
            if (size == MAX_UNDONE) {
                oldest = (oldest + 1) % MAX_UNDONE;
                size--;
            }
            states[(oldest + size) % MAX_UNDONE].copyFrom(now);
            size++;
        }

        void restore(State now) {
            if (size == 0) return;
            size--;
            now.copyFrom(states[(oldest + size) % MAX_UNDONE]);
        }

        void forget() {
            size = 0;
        }
    }

    /** How things stood, and the seed, to go on from. */
    private static final class Images {
        final boolean[] kept = new boolean[IMAGES];
        final State[] states = new State[IMAGES];
        final int[] seeds = new int[IMAGES];

        Images() {
            for (int i = 0; i < IMAGES; i++) states[i] = new State();
        }

        void take(int i, State now, int seed) {
            if (i < 0 || i >= IMAGES) return;
            states[i].copyFrom(now);
            seeds[i] = seed;
            kept[i] = true;
        }

        void forget() {
            for (int i = 0; i < IMAGES; i++) kept[i] = false;
        }
    }
}
