import java.util.NoSuchElementException;

/**
 * A street through which duties that were put off go by on the second of each month.
 * What each call promises stands in ../shared/DOC.md; README.md says how this file is laid out.
 */
public final class PutOffParade {
    public static final int NONE = -1;

    private static final int MOST_PEOPLE = 6;
    private static final int MOST_DUTIES = 12;
    private static final int LAST_KERB = 15;
    private static final int MOST_FREE = 9;
    private static final int MOST_LEFT = 99;
    private static final int MOST_AGE = 99;
    private static final int LAST_DAY = 30;
    private static final int MOST_DAYS = 90;
    private static final int MOST_TEXTS = 12;
    private static final int MOST_ACTS = 12;
    private static final int TAPE_BYTES = 400;
    private static final int FED_BYTES = 20;
    private static final int TOLD_BYTES = 40;
    private static final int LAST_HOUR = 300;
    private static final int MOST_HOURS = 99;
    private static final int MOST_ODDS = 6;
    private static final int MOST_SPARE = 54;
    private static final int SPAN_SEEDS = 6;

    private static final int WAITING = 0;
    private static final int DONE = 1;
    private static final int FORGOTTEN = 2;

    /** What the document answers for days that never come; it is also above every count of days. */
    private static final int NEVER = 1000;

    private final Tape tape = new Tape();
    private final StreetReader streetReader = new StreetReader();
    private final LawReader lawReader = new LawReader();
    private int wrongByte = NONE;

    private final Street now = new Street();
    private final Law rule = new Law();
    private final Choosing choosing = new Choosing();
    /** Looks ahead are taken on this one, made once and used again by each. */
    private final Street later = new Street();

    private final Street imageStreet = new Street();
    private final Law imageRule = new Law();
    private boolean imageKept;

    private final Street[] past = new Street[MOST_ACTS];
    private int firstAct;
    private int acts;

    public PutOffParade() {
        for (int i = 0; i < past.length; i++) {
            past[i] = new Street();
        }
    }

    // ---- the tape and the texts ----

    public int feed(int a, int b, int c, int d, int e) {
        if (tape.length + FED_BYTES > TAPE_BYTES) {
            return NONE;
        }
        tape.append(a);
        tape.append(b);
        tape.append(c);
        tape.append(d);
        tape.append(e);
        return tape.length;
    }

    public boolean end(int n) {
        if (n < 0 || n > tape.length) {
            return false;
        }
        tape.length = n;
        return true;
    }

    public int street() throws IllegalArgumentException, UnsupportedOperationException {
        streetReader.draft.copyFrom(now);
        wrongByte = streetReader.readLines(tape);
        tape.length = 0;
        if (wrongByte != NONE) {
            throw new IllegalArgumentException();
        }
        if (now.texts >= MOST_TEXTS) {
            throw new UnsupportedOperationException();
        }
        now.copyFrom(streetReader.draft);
        now.texts++;
        acts = 0;
        return now.texts;
    }

    public int law() throws IllegalArgumentException {
        lawReader.draft.clear();
        wrongByte = lawReader.readLines(tape);
        tape.length = 0;
        if (wrongByte != NONE) {
            throw new IllegalArgumentException();
        }
        rule.copyFrom(lawReader.draft);
        acts = 0;
        return rule.lines;
    }

    public int fault() {
        return wrongByte;
    }

    // ---- what there is ----

    public int person(int person, int what) throws IndexOutOfBoundsException, NoSuchElementException {
        needPerson(person);
        switch (what) {
            case 0: return at(now.kerb, person);
            case 1: return at(now.free, person);
            case 2: return now.ownedBy(person);
            case 3: return now.loadOf(person);
            case 4: return needsOf(now.loadOf(person), at(now.free, person));
            case 5: return shareOf(person);
            default: throw new NoSuchElementException();
        }
    }

    public int duty(int duty, int what) throws IndexOutOfBoundsException, NoSuchElementException {
        needDuty(duty);
        switch (what) {
            case 0: return at(now.owner, duty);
            case 1: return at(now.left, duty);
            case 2: return at(now.age, duty);
            case 3: return at(now.tool, duty);
            case 4: return at(now.leans, duty);
            case 5: return at(now.state, duty);
            case 6: return now.isReady(duty) ? 1 : 0;
            case 7: return rule.growthOf(now, duty);
            case 8: return rule.shameOf(now, duty);
            case 9: return now.placeOf(duty);
            case 10: return now.passesOf(duty);
            default: throw new NoSuchElementException();
        }
    }

    public int count(int what) {
        switch (what) {
            case 0: return now.people;
            case 1: return now.duties;
            case 2: return now.texts;
            case 3: return rule.lines;
            case 4: return now.day;
            case 5: return now.month;
            case 6: return now.ill;
            case 7: return now.pace;
            case 8: return now.price;
            case 9: return now.bitsIn(WAITING);
            case 10: return now.bitsIn(DONE);
            case 11: return now.readyBits();
            case 12: return shameOfWaiting(now);
            case 13: return now.floats.rows;
            case 14: return acts;
            default: return NONE;
        }
    }

    // ---- acts ----

    public int call(int duty) throws IndexOutOfBoundsException, IllegalStateException {
        needDuty(duty);
        if (!has(now.canBits(), duty)) {
            throw new IllegalStateException();
        }
        int passes = now.passesOf(duty);
        rememberAct();
        now.finish(duty);
        return passes;
    }

    public int put(int duty) throws IndexOutOfBoundsException, IllegalStateException {
        needDuty(duty);
        needState(duty, WAITING);
        rememberAct();
        now.growOlder(duty);
        return at(now.age, duty);
    }

    public int forget(int duty) throws IndexOutOfBoundsException, IllegalStateException {
        needDuty(duty);
        needState(duty, WAITING);
        rememberAct();
        setAt(now.state, duty, FORGOTTEN);
        return at(now.left, duty);
    }

    public int recall(int duty) throws IndexOutOfBoundsException, IllegalStateException {
        needDuty(duty);
        needState(duty, FORGOTTEN);
        rememberAct();
        setAt(now.state, duty, WAITING);
        return at(now.age, duty);
    }

    public int hand(int duty, int person)
            throws IndexOutOfBoundsException, IllegalArgumentException, IllegalStateException {
        needDuty(duty);
        needPerson(person);
        int owner = at(now.owner, duty);
        needTwo(owner, person);
        if (at(now.state, duty) == DONE) {
            throw new IllegalStateException();
        }
        rememberAct();
        setAt(now.owner, duty, person);
        return owner;
    }

    public int lean(int duty, int other) throws IndexOutOfBoundsException, IllegalArgumentException {
        needDuty(duty);
        if (other != NONE) {
            needDuty(other);
        }
        needTwo(duty, other);
        int before = at(now.leans, duty);
        rememberAct();
        setAt(now.leans, duty, other);
        return before;
    }

    public int free(int person, int n) throws IndexOutOfBoundsException, IllegalArgumentException {
        needPerson(person);
        needNumber(n, 0, MOST_FREE);
        int before = at(now.free, person);
        rememberAct();
        setAt(now.free, person, n);
        return before;
    }

    public int days(int n) throws IllegalArgumentException {
        needNumber(n, 1, MOST_DAYS);
        rememberAct();
        int doneBefore = now.bitsIn(DONE);
        for (int i = 0; i < n; i++) {
            now.passDay(rule, true);
            if (now.day == 2) {
                letParadeGoBy();
            }
        }
        return Integer.bitCount(now.bitsIn(DONE) & ~doneBefore);
    }

    // ---- the parade now ----

    public int parade(int k) {
        return now.dutyAt(k);
    }

    public int can() {
        return now.canBits();
    }

    public int greets(int duty, int kerb) throws IndexOutOfBoundsException {
        needDuty(duty);
        needKerb(kerb);
        int place = now.placeOf(duty);
        return place == NONE ? NONE : now.pace * (place + kerb);
    }

    public int where(int duty, int hour) throws IndexOutOfBoundsException, IllegalArgumentException {
        needDuty(duty);
        needNumber(hour, 0, LAST_HOUR);
        return now.kerbAt(duty, hour);
    }

    public int crowd(int from, int to, int hour) throws IndexOutOfBoundsException, IllegalArgumentException {
        needKerb(from);
        needKerb(to);
        needNumber(hour, 0, LAST_HOUR);
        needNumber(from, 0, to);
        int crowd = 0;
        for (int d = 0; d < now.duties; d++) {
            int kerb = now.kerbAt(d, hour);
            if (kerb >= from && kerb <= to) {
                crowd++;
            }
        }
        return crowd;
    }

    public int most() {
        return choosing.mostCalled(now);
    }

    public int does(int h, boolean shame) throws IllegalArgumentException {
        needNumber(h, 0, MOST_HOURS);
        int set = choosing.leastShame(now, rule, h);
        return shame ? rule.shameOfSet(now, now.bitsIn(WAITING) & ~set) : set;
    }

    // ---- leaning ----

    public int soon(int duty) throws IndexOutOfBoundsException {
        needDuty(duty);
        return Leaning.hoursTill(now, duty);
    }

    public int longest() {
        int longest = 0;
        for (int d = 0; d < now.duties; d++) {
            longest = Math.max(longest, Leaning.hoursTill(now, d));
        }
        return longest;
    }

    public int ring() {
        return Leaning.ringBits(now);
    }

    public int before(int duty) throws IndexOutOfBoundsException {
        needDuty(duty);
        return Leaning.chainOf(now, duty);
    }

    public int after(int duty) throws IndexOutOfBoundsException {
        needDuty(duty);
        return Leaning.leaningOn(now, duty);
    }

    public int depth(int duty) throws IndexOutOfBoundsException {
        needDuty(duty);
        return Integer.bitCount(Leaning.chainOf(now, duty) & ~now.bitsIn(DONE));
    }

    public int young(int a) throws IllegalArgumentException {
        needNumber(a, 0, MOST_AGE - 1);
        return Leaning.hoursTillYoung(now, a);
    }

    public int older(int a) throws IllegalArgumentException {
        needNumber(a, 0, MOST_AGE);
        return Integer.bitCount(now.olderThan(a));
    }

    // ---- whose a duty is ----

    public int whose() throws IllegalArgumentException {
        int people = takeWhoFits();
        if (people == NONE) {
            throw new IllegalArgumentException();
        }
        return people;
    }

    public int ask() throws IllegalArgumentException {
        int people = takeWhoFits();
        if (people == NONE) {
            throw new IllegalArgumentException();
        }
        return kerbToAskFor(people);
    }

    // ---- what was forgotten ----

    public int gap() {
        for (int age = 0; age < MOST_AGE; age++) {
            if (isGap(age)) {
                return age;
            }
        }
        return NONE;
    }

    public int lost() {
        return now.bitsIn(FORGOTTEN);
    }

    public int missed() {
        int missed = 0;
        for (int d = 0; d < now.duties; d++) {
            if (at(now.state, d) == FORGOTTEN && isGap(at(now.age, d))) {
                missed |= bit(d);
            }
        }
        return missed;
    }

    // ---- people among one another ----

    public int swap(int person, int other) throws IndexOutOfBoundsException, IllegalArgumentException {
        needPerson(person);
        needPerson(other);
        needTwo(person, other);
        return Choosing.firstSwap(now, person, other);
    }

    public int rests(int person, int other, int duty) throws IndexOutOfBoundsException, IllegalArgumentException {
        needPerson(person);
        needPerson(other);
        needDuty(duty);
        needTwo(person, other);
        return Choosing.restingChoices(rule.shameOf(now, duty), at(now.left, duty));
    }

    public int sponsor() {
        int sum = 0;
        for (int d = 0; d < now.duties; d++) {
            if (now.isWaiting(d)) {
                sum += Math.max(0, now.price * at(now.age, d) - at(now.left, d));
            }
        }
        return sum;
    }

    public int idle() {
        int idle = NONE;
        int least = 0;
        for (int p = 0; p < now.people; p++) {
            int load = now.loadOf(p);
            if (idle == NONE || load < least) {
                idle = p;
                least = load;
            }
        }
        return idle;
    }

    public int worst() {
        int worst = NONE;
        int most = NONE;
        for (int d = 0; d < now.duties; d++) {
            int shame = now.isWaiting(d) ? rule.shameOf(now, d) : NONE;
            if (shame > most) {
                worst = d;
                most = shame;
            }
        }
        return worst;
    }

    public int alike() {
        int pairs = 0;
        for (int d = 0; d < now.duties; d++) {
            for (int e = d + 1; e < now.duties; e++) {
                if (now.areAlike(d, e)) {
                    pairs++;
                }
            }
        }
        return pairs;
    }

    // ---- odds ----

    public int odds(int n, int k) throws IllegalArgumentException {
        needNumber(n, 0, MOST_ODDS);
        needNumber(k, 0, MOST_ODDS);
        return Choosing.oddsOf(now.ill, n, k);
    }

    public int spare(int person, int h) throws IndexOutOfBoundsException, IllegalArgumentException {
        needPerson(person);
        needNumber(h, 1, MOST_SPARE);
        return Choosing.daysToLeaveFree(100 - now.ill, at(now.free, person), h);
    }

    // ---- days to come ----

    public int done(int duty) throws IndexOutOfBoundsException {
        needDuty(duty);
        later.copyFrom(now);
        return later.daysTillDone(rule, duty);
    }

    public int all() {
        later.copyFrom(now);
        int days = later.daysTillNoneWaits(rule);
        return days == NEVER ? NONE : days;
    }

    public int help() {
        later.copyFrom(now);
        int soonest = later.daysTillNoneWaits(rule);
        int best = NONE;
        for (int p = 0; p < now.people; p++) {
            later.copyFrom(now);
            setAt(later.free, p, Math.min(MOST_FREE, at(now.free, p) + 1));
            int days = later.daysTillNoneWaits(rule);
            if (days < soonest) {
                soonest = days;
                best = p;
            }
        }
        return best;
    }

    public int crux() {
        later.copyFrom(now);
        int soonest = later.daysTillNoneWaits(rule);
        int best = NONE;
        for (int d = 0; d < now.duties; d++) {
            if (now.isWaiting(d)) {
                later.copyFrom(now);
                later.finish(d);
                int days = later.daysTillNoneWaits(rule);
                if (days < soonest) {
                    soonest = days;
                    best = d;
                }
            }
        }
        return best;
    }

    public int sick(int person) throws IndexOutOfBoundsException {
        needPerson(person);
        later.copyFrom(now);
        int days = later.daysTillNoneWaits(rule);
        if (days == NEVER) {
            return NONE;
        }
        later.copyFrom(now);
        setAt(later.free, person, 0);
        int daysWithout = later.daysTillNoneWaits(rule);
        return daysWithout == NEVER ? NEVER : daysWithout - days;
    }

    public int ahead(int duty, int n, int what)
            throws IndexOutOfBoundsException, IllegalArgumentException, NoSuchElementException {
        needDuty(duty);
        needNumber(n, 0, MOST_DAYS);
        if (what < 0 || what > 2) {
            throw new NoSuchElementException();
        }
        later.copyFrom(now);
        for (int i = 0; i < n; i++) {
            later.passDay(rule, false);
        }
        switch (what) {
            case 0: return at(later.left, duty);
            case 1: return at(later.age, duty);
            default: return at(later.state, duty);
        }
    }

    public int trial(int n, boolean done) throws IllegalArgumentException {
        needNumber(n, 0, MOST_DAYS);
        int shame = shameTriedOut(n, now.seed);
        return done ? later.bitsIn(DONE) : shame;
    }

    public int span(int n, boolean most) throws IllegalArgumentException {
        needNumber(n, 0, MOST_DAYS);
        int found = shameTriedOut(n, 1);
        for (int seed = 2; seed <= SPAN_SEEDS; seed++) {
            int shame = shameTriedOut(n, seed);
            found = most ? Math.max(found, shame) : Math.min(found, shame);
        }
        return found;
    }

    // ---- the log, the seed, and what can be gone back to ----

    public int led(int duty, boolean month) throws IndexOutOfBoundsException {
        needDuty(duty);
        return month ? now.floats.latestMonthOf(duty) : now.floats.rowsOf(duty);
    }

    public int log(int ago, int what) throws NoSuchElementException {
        if (what < 0 || what > 3) {
            throw new NoSuchElementException();
        }
        return now.floats.valueOf(ago, what);
    }

    public int seed(int n) {
        int before = now.seed;
        now.seed = n;
        return before;
    }

    public boolean undo() {
        if (acts < 1) {
            return false;
        }
        acts--;
        Street street = pastAt(firstAct + acts);
        if (street != null) {
            now.copyAll(street);
        }
        return true;
    }

    public void image() {
        imageStreet.copyAll(now);
        imageRule.copyFrom(rule);
        imageKept = true;
    }

    public boolean back() {
        if (!imageKept) {
            return false;
        }
        now.copyAll(imageStreet);
        rule.copyFrom(imageRule);
        acts = 0;
        return true;
    }

    // ---- what the calls above share ----

    private void needPerson(int person) {
        if (person < 0 || person >= now.people) {
            throw new IndexOutOfBoundsException();
        }
    }

    private void needDuty(int duty) {
        if (duty < 0 || duty >= now.duties) {
            throw new IndexOutOfBoundsException();
        }
    }

    private static void needKerb(int kerb) {
        if (kerb < 0 || kerb > LAST_KERB) {
            throw new IndexOutOfBoundsException();
        }
    }

    private static void needNumber(int n, int low, int high) {
        if (n < low || n > high) {
            throw new IllegalArgumentException();
        }
    }

    private static void needTwo(int one, int other) {
        if (one == other) {
            throw new IllegalArgumentException();
        }
    }

    private void needState(int duty, int state) {
        if (at(now.state, duty) != state) {
            throw new IllegalStateException();
        }
    }

    private Street pastAt(int act) {
        int i = act % MOST_ACTS;
        return i >= 0 && i < past.length ? past[i] : null;
    }

    private void rememberAct() {
        if (acts == MOST_ACTS) {
            firstAct = (firstAct + 1) % MOST_ACTS;
            acts--;
        }
        Street street = pastAt(firstAct + acts);
        if (street != null) {
            street.copyAll(now);
        }
        acts++;
    }

    private void letParadeGoBy() {
        for (int k = 0; k < MOST_DUTIES; k++) {
            int duty = now.dutyAt(k);
            if (duty != NONE) {
                now.floats.add(now.month, duty, k, rule.shameOf(now, duty));
            }
        }
    }

    private int shameTriedOut(int n, int seed) {
        later.copyFrom(now);
        later.seed = seed;
        for (int i = 0; i < n; i++) {
            later.passDay(rule, true);
        }
        return shameOfWaiting(later);
    }

    private int shameOfWaiting(Street street) {
        return rule.shameOfSet(street, street.bitsIn(WAITING));
    }

    private int shareOf(int person) {
        int whole = shameOfWaiting(now);
        int own = rule.shameOfSet(now, now.bitsIn(WAITING) & now.ownedBy(person));
        return whole > 0 ? own * 100 / whole : 0;
    }

    private boolean isGap(int age) {
        if (age < 0 || age >= MOST_AGE || now.olderThan(age) == 0) {
            return false;
        }
        for (int d = 0; d < now.duties; d++) {
            if (now.isWaiting(d) && at(now.age, d) == age) {
                return false;
            }
        }
        return true;
    }

    private int takeWhoFits() {
        int people = whoFits();
        tape.length = 0;
        return people;
    }

    /** NONE, if the tape does not tell pairs of kerbs. */
    private int whoFits() {
        if (tape.length > TOLD_BYTES || tape.length % 2 != 0) {
            return NONE;
        }
        int people = bit(now.people) - 1;
        for (int i = 0; i < tape.length; i += 2) {
            int from = tape.byteAt(i);
            int to = tape.byteAt(i + 1);
            if (from > to || to > LAST_KERB) {
                return NONE;
            }
            people &= now.standingBetween(from, to);
        }
        return people;
    }

    private int kerbToAskFor(int people) {
        int fitting = Integer.bitCount(people);
        if (fitting < 2) {
            return NONE;
        }
        int kerb = NONE;
        int least = fitting + 1;
        for (int k = 0; k < LAST_KERB; k++) {
            int below = Integer.bitCount(people & now.standingBetween(0, k));
            int greater = Math.max(below, fitting - below);
            if (greater < least) {
                kerb = k;
                least = greater;
            }
        }
        return kerb;
    }

    private static int needsOf(int load, int free) {
        if (load == 0) {
            return 0;
        }
        return free > 0 ? (load + free - 1) / free : NEVER;
    }

    // ---- rows and sets ----

    private static int at(int[] row, int i) {
        return i >= 0 && i < row.length ? row[i] : NONE;
    }

    private static void setAt(int[] row, int i, int value) {
        if (i >= 0 && i < row.length) {
            row[i] = value;
        }
    }

    private static void copyRow(int[] from, int[] to) {
        System.arraycopy(from, 0, to, 0, Math.min(from.length, to.length));
    }

    private static int bit(int i) {
        return i >= 0 && i < 31 ? 1 << i : 0;
    }

    private static boolean has(int set, int i) {
        return (set & bit(i)) != 0;
    }

    private static int sumOver(int[] row, int set) {
        int sum = 0;
        for (int i = 0; i < row.length; i++) {
            if ((set >> i & 1) != 0) {
                sum += row[i];
            }
        }
        return sum;
    }

    /** The bytes that were fed and not used up yet. */
    private static final class Tape {
        final byte[] bytes = new byte[TAPE_BYTES];
        int length;

        void append(int number) {
            for (int shift = 24; shift >= 0; shift -= 8) {
                if (length >= 0 && length < bytes.length) {
                    bytes[length] = (byte) (number >> shift);
                    length++;
                }
            }
        }

        int byteAt(int i) {
            return i >= 0 && i < length && i < bytes.length ? bytes[i] & 255 : NONE;
        }
    }

    /** All words of the texts; those that tell a part of a duty with its code in the law. */
    private enum Word {
        PERSON("person", NONE), AT("at", NONE), FREE("free", NONE),
        DUTY("duty", Law.DUTY), OF("of", NONE), TAKES("takes", NONE), AGE("age", Law.AGE),
        TOOL("tool", Law.TOOL), ON("on", NONE), FORGOTTEN("forgotten", NONE),
        ILL("ill", NONE), PACE("pace", NONE), PRICE("price", NONE), DAY("day", Law.DAY),
        MONTH("month", NONE), GROW("grow", NONE), SHAME("shame", NONE), EASE("ease", NONE),
        IF("if", NONE), OR("or", NONE), AND("and", NONE), NOT("not", NONE),
        READY("ready", NONE), OLD("old", NONE),
        LEFT("left", Law.LEFT), OWNER("owner", Law.OWNER), KERB("kerb", Law.KERB);

        final String text;
        final int part;

        Word(String text, int part) {
            this.text = text;
            this.part = part;
        }
    }

    /**
     * The words, numbers and signs of the tape, one after another. Nothing is taken that does not
     * fit: so the thing that cannot stand there is always the one at hand, and begins at the fault.
     */
    private static final class Tokens {
        static final int END = 0;
        static final int WORD = 1;
        static final int NUMBER = 2;
        static final int SIGN = 3;
        static final int BLANK = 4;
        static final int MOST_DIGITS = 3;
        private static final Word[] WORDS = Word.values();

        final int[] kinds = new int[TAPE_BYTES + 1];
        final int[] begins = new int[TAPE_BYTES + 1];
        final int[] ends = new int[TAPE_BYTES + 1];
        final int[] values = new int[TAPE_BYTES + 1];
        int size;

        int current;
        int kind;
        int begin;
        int value;
        Word word;

        /** All at once, and not while they are taken: the readers are deep in calls by then. */
        void scan(Tape tape) {
            size = 0;
            int last = BLANK;
            for (int i = 0; i < tape.length; i++) {
                int here = kindOf(tape.byteAt(i));
                if (here == SIGN || here != BLANK && here != last) {
                    open(here, i);
                }
                if (here != BLANK) {
                    setAt(ends, size - 1, i + 1);
                }
                last = here;
            }
            open(END, tape.length);
            for (int token = 0; token < size; token++) {
                setAt(values, token, valueOf(tape, token));
            }
            current = NONE;
            next();
        }

        private static int kindOf(int sign) {
            if (sign == ' ') {
                return BLANK;
            }
            if (sign >= 'a' && sign <= 'z') {
                return WORD;
            }
            return sign >= '0' && sign <= '9' ? NUMBER : SIGN;
        }

        private void open(int kindOfToken, int first) {
            setAt(kinds, size, kindOfToken);
            setAt(begins, size, first);
            setAt(ends, size, first);
            size++;
        }

        private int valueOf(Tape tape, int token) {
            switch (at(kinds, token)) {
                case WORD: return wordOf(tape, token);
                case NUMBER: return numberOf(tape, token);
                default: return tape.byteAt(at(begins, token));
            }
        }

        private int wordOf(Tape tape, int token) {
            for (int i = 0; i < WORDS.length; i++) {
                Word known = WORDS[i];
                if (known != null && isText(tape, token, known.text)) {
                    return i;
                }
            }
            return NONE;
        }

        private boolean isText(Tape tape, int token, String text) {
            int first = at(begins, token);
            if (at(ends, token) - first != text.length()) {
                return false;
            }
            for (int i = 0; i < text.length(); i++) {
                if (tape.byteAt(first + i) != text.charAt(i)) {
                    return false;
                }
            }
            return true;
        }

        private int numberOf(Tape tape, int token) {
            int first = at(begins, token);
            int end = at(ends, token);
            if (end - first > MOST_DIGITS) {
                return NONE;
            }
            int number = 0;
            for (int i = first; i < end; i++) {
                number = number * 10 + tape.byteAt(i) - '0';
            }
            return number;
        }

        /** The end stays at hand, however often it is taken. */
        void next() {
            current = Math.min(current + 1, size - 1);
            kind = at(kinds, current);
            begin = at(begins, current);
            value = at(values, current);
            word = kind == WORD && value >= 0 && value < WORDS.length ? WORDS[value] : null;
        }

        boolean isEnd() {
            return kind == END;
        }

        boolean isSign(char sign) {
            return kind == SIGN && value == sign;
        }

        boolean takeSign(char sign) {
            boolean fits = isSign(sign);
            if (fits) {
                next();
            }
            return fits;
        }

        boolean takeWord(Word wanted) {
            boolean fits = word == wanted;
            if (fits) {
                next();
            }
            return fits;
        }

        /** NONE, if there is no number from low to high at hand. */
        int takeNumber(int low, int high) {
            int number = value;
            if (kind != NUMBER || number < low || number > high) {
                return NONE;
            }
            next();
            return number;
        }
    }

    /** Reads a text into a draft, of which nothing is used if the text is wrong. */
    private abstract static class TextReader {
        final Tokens tokens = new Tokens();
        final int mostLines;

        TextReader(int mostLines) {
            this.mostLines = mostLines;
        }

        /** True, if the line at hand is right; else what is at hand then is wrong. */
        abstract boolean readLine();

        /** The first wrong byte, or NONE. */
        int readLines(Tape tape) {
            tokens.scan(tape);
            if (tokens.isEnd()) {
                return NONE;
            }
            for (int lines = 0; lines < mostLines; lines++) {
                if (!readLine()) {
                    return tokens.begin;
                }
                if (tokens.isEnd()) {
                    return NONE;
                }
                if (!tokens.takeSign(';')) {
                    return tokens.begin;
                }
            }
            return tokens.begin;
        }
    }

    /** Its draft is the street as it was ahead of the text. */
    private static final class StreetReader extends TextReader {
        static final int MOST_LINES = 14;

        final Street draft = new Street();

        StreetReader() {
            super(MOST_LINES);
        }

        boolean readLine() {
            if (tokens.word == Word.PERSON) {
                return draft.people < MOST_PEOPLE && readPerson();
            }
            if (tokens.word == Word.DUTY) {
                return draft.duties < MOST_DUTIES && readDuty();
            }
            if (tokens.takeWord(Word.FORGOTTEN)) {
                return readForgotten();
            }
            return readSetting();
        }

        private boolean readPerson() {
            tokens.next();
            int kerb = readNumberOf(Word.AT, 0, LAST_KERB);
            if (kerb == NONE) {
                return false;
            }
            int free = readNumberOf(Word.FREE, 0, MOST_FREE);
            if (free == NONE) {
                return false;
            }
            draft.addPerson(kerb, free);
            return true;
        }

        private boolean readDuty() {
            tokens.next();
            int owner = readNumberOf(Word.OF, 0, draft.people - 1);
            if (owner == NONE) {
                return false;
            }
            int left = readNumberOf(Word.TAKES, 1, MOST_LEFT);
            if (left == NONE) {
                return false;
            }
            int age = 0;
            if (tokens.word == Word.AGE) {
                age = readNumberOf(Word.AGE, 0, MOST_AGE);
                if (age == NONE) {
                    return false;
                }
            }
            int tool = NONE;
            if (tokens.word == Word.TOOL) {
                tool = readNumberOf(Word.TOOL, 0, 5);
                if (tool == NONE) {
                    return false;
                }
            }
            int other = NONE;
            if (tokens.word == Word.ON) {
                other = readNumberOf(Word.ON, 0, draft.duties - 1);
                if (other == NONE) {
                    return false;
                }
            }
            draft.addDuty(owner, left, age, tool, other);
            return true;
        }

        private boolean readForgotten() {
            if (tokens.kind != Tokens.NUMBER || !draft.isWaiting(tokens.value)) {
                return false;
            }
            setAt(draft.state, tokens.value, FORGOTTEN);
            tokens.next();
            return true;
        }

        /** A wrong number goes into the draft too: it is dropped with it. */
        private boolean readSetting() {
            if (tokens.word == Word.ILL) {
                draft.ill = readNumberOf(Word.ILL, 0, 100);
                return draft.ill != NONE;
            }
            if (tokens.word == Word.PACE) {
                draft.pace = readNumberOf(Word.PACE, 1, 9);
                return draft.pace != NONE;
            }
            if (tokens.word == Word.PRICE) {
                draft.price = readNumberOf(Word.PRICE, 0, 50);
                return draft.price != NONE;
            }
            if (tokens.word == Word.DAY) {
                draft.day = readNumberOf(Word.DAY, 1, LAST_DAY);
                return draft.day != NONE;
            }
            draft.month = readNumberOf(Word.MONTH, 0, 999);
            return draft.month != NONE;
        }

        private int readNumberOf(Word word, int low, int high) {
            return tokens.takeWord(word) ? tokens.takeNumber(low, high) : NONE;
        }
    }

    /** How duties grow, shame and take: lines whose conditions stand as postfix code. */
    private static final class Law {
        static final int MOST_LINES = 12;
        static final int GROW = 0;
        static final int SHAME = 1;
        static final int EASE = 2;

        /** Code below this is a number, from here on a part of the duty, from PLUS on an operation. */
        static final int FIRST_PART = 1000;
        static final int PARTS = 9;
        static final int DUTY = FIRST_PART;
        static final int LEFT = FIRST_PART + 1;
        static final int AGE = FIRST_PART + 2;
        static final int TOOL = FIRST_PART + 3;
        static final int OWNER = FIRST_PART + 4;
        static final int KERB = FIRST_PART + 5;
        static final int DAY = FIRST_PART + 6;
        static final int READY = FIRST_PART + 7;
        static final int OLD = FIRST_PART + 8;
        static final int PLUS = 2000;
        static final int LESS = 2001;
        static final int MORE = 2002;
        static final int NOT = 2003;
        static final int AND = 2004;
        static final int OR = 2005;

        /** Six ( or not deep, each with an or, an and and a sum begun, need fewer. */
        static final int STACK = 32;
        static final int NO_TOOL = 9;
        static final int OLD_ABOVE = 11;

        int lines = NONE;
        int length;
        final int[] kind = new int[MOST_LINES];
        final int[] number = new int[MOST_LINES];
        final int[] from = new int[MOST_LINES];
        final int[] to = new int[MOST_LINES];
        final int[] code = new int[TAPE_BYTES];
        final int[] parts = new int[PARTS];
        final int[] stack = new int[STACK];

        void copyFrom(Law other) {
            lines = other.lines;
            copyRow(other.kind, kind);
            copyRow(other.number, number);
            copyRow(other.from, from);
            copyRow(other.to, to);
            copyRow(other.code, code);
        }

        void clear() {
            lines = 0;
            length = 0;
        }

        void openLine(int kindOfLine, int n) {
            setAt(kind, lines, kindOfLine);
            setAt(number, lines, n);
            setAt(from, lines, length);
        }

        void emit(int operation) {
            setAt(code, length, operation);
            length++;
        }

        void closeLine() {
            setAt(to, lines, length);
            lines++;
        }

        int growthOf(Street street, int duty) {
            takeParts(street, duty);
            return sumOfLines(GROW);
        }

        int shameOf(Street street, int duty) {
            takeParts(street, duty);
            return Math.max(0, at(street.age, duty) + sumOfLines(SHAME) - sumOfLines(EASE));
        }

        int shameOfSet(Street street, int set) {
            int sum = 0;
            for (int d = 0; d < street.duties; d++) {
                if (has(set, d)) {
                    sum += shameOf(street, d);
                }
            }
            return sum;
        }

        private void takeParts(Street street, int duty) {
            int tool = at(street.tool, duty);
            int owner = at(street.owner, duty);
            setPart(DUTY, duty);
            setPart(LEFT, at(street.left, duty));
            setPart(AGE, at(street.age, duty));
            setPart(TOOL, tool == NONE ? NO_TOOL : tool);
            setPart(OWNER, owner);
            setPart(KERB, at(street.kerb, owner));
            setPart(DAY, street.day);
            // as if it was waiting: the law is asked about done and forgotten duties too
            setPart(READY, street.leansFreely(duty) ? 1 : 0);
            setPart(OLD, at(street.age, duty) > OLD_ABOVE ? 1 : 0);
        }

        private void setPart(int part, int value) {
            setAt(parts, part - FIRST_PART, value);
        }

        private int sumOfLines(int kindOfLine) {
            int sum = 0;
            for (int line = 0; line < lines; line++) {
                if (at(kind, line) == kindOfLine && holds(line)) {
                    sum += at(number, line);
                }
            }
            return sum;
        }

        private boolean holds(int line) {
            int size = 0;
            int end = at(to, line);
            for (int i = at(from, line); i < end; i++) {
                int operation = at(code, i);
                if (operation < PLUS) {
                    setAt(stack, size, operation < FIRST_PART ? operation : at(parts, operation - FIRST_PART));
                    size++;
                } else if (operation == NOT) {
                    setAt(stack, size - 1, 1 - at(stack, size - 1));
                } else {
                    size--;
                    setAt(stack, size - 1, joined(operation, at(stack, size - 1), at(stack, size)));
                }
            }
            return size == 0 || at(stack, 0) != 0;
        }

        private static int joined(int operation, int one, int other) {
            switch (operation) {
                case PLUS: return one + other;
                case LESS: return one < other ? 1 : 0;
                case MORE: return one > other ? 1 : 0;
                case AND: return one & other;
                default: return one | other;
            }
        }
    }

    /**
     * What waits for the rest of a condition (a not, an and, an or, an open bracket) is held on a
     * stack meanwhile.
     */
    private static final class LawReader extends TextReader {
        static final int MOST_NUMBER = 60;
        static final int DEEPEST = 6;
        static final int HELD = 32;
        /** Above all operations: none of them is emitted past a bracket that is open. */
        static final int BRACKET = Law.OR + 1;

        final Law draft = new Law();
        final int[] waiting = new int[HELD];
        int held;
        int depth;

        LawReader() {
            super(Law.MOST_LINES);
        }

        boolean readLine() {
            int kind = takeKind();
            if (kind == NONE) {
                return false;
            }
            int number = tokens.takeNumber(0, MOST_NUMBER);
            if (number == NONE) {
                return false;
            }
            draft.openLine(kind, number);
            if (tokens.takeWord(Word.IF) && !readCondition()) {
                return false;
            }
            draft.closeLine();
            return true;
        }

        private int takeKind() {
            if (tokens.takeWord(Word.GROW)) {
                return Law.GROW;
            }
            if (tokens.takeWord(Word.SHAME)) {
                return Law.SHAME;
            }
            return tokens.takeWord(Word.EASE) ? Law.EASE : NONE;
        }

        private boolean readCondition() {
            held = 0;
            depth = 0;
            for (int atoms = 0; atoms < TAPE_BYTES; atoms++) {
                if (!openDeeper() || !readAtom()) {
                    return false;
                }
                closeDeeper();
                int join = joinAtHand();
                if (join == NONE) {
                    emitHeld(Law.OR);
                    return held == 0;
                }
                emitHeld(join);
                hold(join);
                tokens.next();
            }
            return false;
        }

        private int joinAtHand() {
            if (tokens.word == Word.AND) {
                return Law.AND;
            }
            return tokens.word == Word.OR ? Law.OR : NONE;
        }

        /** Each not and each ( ahead of an atom; false, if one of them is too deep. */
        private boolean openDeeper() {
            for (int i = 0; i <= DEEPEST; i++) {
                boolean isNot = tokens.word == Word.NOT;
                if (!isNot && !tokens.isSign('(')) {
                    return true;
                }
                if (depth >= DEEPEST) {
                    return false;
                }
                depth++;
                hold(isNot ? Law.NOT : BRACKET);
                tokens.next();
            }
            return false;
        }

        /** Each ) that is at hand for an open (. */
        private void closeDeeper() {
            for (int i = 0; i < DEEPEST && tokens.isSign(')'); i++) {
                emitHeld(Law.OR);
                if (held == 0) {
                    return;
                }
                held--;
                depth--;
                tokens.next();
            }
        }

        private void hold(int operation) {
            setAt(waiting, held, operation);
            held++;
        }

        /** What is held last and binds as strongly at least: the codes grow as operations bind less. */
        private void emitHeld(int operation) {
            while (held > 0 && at(waiting, held - 1) <= operation) {
                held--;
                int last = at(waiting, held);
                if (last == Law.NOT) {
                    depth--;
                }
                draft.emit(last);
            }
        }

        private boolean readAtom() {
            if (tokens.takeWord(Word.READY)) {
                draft.emit(Law.READY);
                return true;
            }
            if (tokens.takeWord(Word.OLD)) {
                draft.emit(Law.OLD);
                return true;
            }
            if (!readSum()) {
                return false;
            }
            int comparison = tokens.isSign('<') ? Law.LESS : Law.MORE;
            if (!tokens.takeSign('<') && !tokens.takeSign('>')) {
                return false;
            }
            boolean right = readSum();
            draft.emit(comparison);
            return right;
        }

        private boolean readSum() {
            int part = partAtHand();
            if (part == NONE) {
                return false;
            }
            tokens.next();
            draft.emit(part);
            for (int i = 0; i < TAPE_BYTES && tokens.isSign('+'); i++) {
                tokens.next();
                part = partAtHand();
                if (part == NONE) {
                    return false;
                }
                tokens.next();
                draft.emit(part);
                draft.emit(Law.PLUS);
            }
            return true;
        }

        private int partAtHand() {
            if (tokens.kind == Tokens.NUMBER) {
                return tokens.value;
            }
            Word word = tokens.word;
            return word == null ? NONE : word.part;
        }
    }

    /** The log: the latest rows in a ring of MOST_ROWS places, four numbers each. */
    private static final class Floats {
        static final int MOST_ROWS = 60;
        static final int NUMBERS = 4;

        int rows;
        int nextRow;
        final int[] numbers = new int[MOST_ROWS * NUMBERS];

        void copyFrom(Floats other) {
            rows = other.rows;
            nextRow = other.nextRow;
            copyRow(other.numbers, numbers);
        }

        void add(int month, int duty, int place, int shame) {
            int first = nextRow * NUMBERS;
            setAt(numbers, first, month);
            setAt(numbers, first + 1, duty);
            setAt(numbers, first + 2, place);
            setAt(numbers, first + 3, shame);
            nextRow = (nextRow + 1) % MOST_ROWS;
            rows = Math.min(MOST_ROWS, rows + 1);
        }

        int valueOf(int ago, int what) {
            if (ago < 0 || ago >= rows) {
                return NONE;
            }
            int row = (nextRow - 1 - ago + MOST_ROWS) % MOST_ROWS;
            return at(numbers, row * NUMBERS + what);
        }

        int rowsOf(int duty) {
            int found = 0;
            for (int ago = 0; ago < rows; ago++) {
                if (valueOf(ago, 1) == duty) {
                    found++;
                }
            }
            return found;
        }

        int latestMonthOf(int duty) {
            for (int ago = 0; ago < rows; ago++) {
                if (valueOf(ago, 1) == duty) {
                    return valueOf(ago, 0);
                }
            }
            return NONE;
        }
    }

    /** All that an act can change, but for the law, which no act changes. */
    private static final class Street {
        int people;
        final int[] kerb = new int[MOST_PEOPLE];
        final int[] free = new int[MOST_PEOPLE];
        int duties;
        final int[] owner = new int[MOST_DUTIES];
        final int[] left = new int[MOST_DUTIES];
        final int[] age = new int[MOST_DUTIES];
        final int[] tool = new int[MOST_DUTIES];
        final int[] leans = new int[MOST_DUTIES];
        final int[] state = new int[MOST_DUTIES];
        int day = 1;
        int month;
        int ill;
        int pace = 2;
        int price = 3;
        int seed = 1;
        int texts;
        final Floats floats = new Floats();

        /** Without the log, which neither a text nor a look ahead needs. */
        void copyFrom(Street other) {
            people = other.people;
            copyRow(other.kerb, kerb);
            copyRow(other.free, free);
            duties = other.duties;
            copyRow(other.owner, owner);
            copyRow(other.left, left);
            copyRow(other.age, age);
            copyRow(other.tool, tool);
            copyRow(other.leans, leans);
            copyRow(other.state, state);
            day = other.day;
            month = other.month;
            ill = other.ill;
            pace = other.pace;
            price = other.price;
            seed = other.seed;
            texts = other.texts;
        }

        void copyAll(Street other) {
            copyFrom(other);
            floats.copyFrom(other.floats);
        }

        void addPerson(int kerbOfIt, int freeOfIt) {
            setAt(kerb, people, kerbOfIt);
            setAt(free, people, freeOfIt);
            people++;
        }

        void addDuty(int ownerOfIt, int leftOfIt, int ageOfIt, int toolOfIt, int other) {
            setAt(owner, duties, ownerOfIt);
            setAt(left, duties, leftOfIt);
            setAt(age, duties, ageOfIt);
            setAt(tool, duties, toolOfIt);
            setAt(leans, duties, other);
            setAt(state, duties, WAITING);
            duties++;
        }

        boolean isWaiting(int duty) {
            return duty >= 0 && duty < duties && at(state, duty) == WAITING;
        }

        boolean leansFreely(int duty) {
            int other = at(leans, duty);
            return other == NONE || at(state, other) == DONE;
        }

        boolean isReady(int duty) {
            return isWaiting(duty) && leansFreely(duty);
        }

        boolean areAlike(int duty, int other) {
            return isWaiting(duty) && isWaiting(other)
                && at(left, duty) == at(left, other) && at(age, duty) == at(age, other);
        }

        int bitsIn(int wanted) {
            int bits = 0;
            for (int d = 0; d < duties; d++) {
                if (at(state, d) == wanted) {
                    bits |= bit(d);
                }
            }
            return bits;
        }

        int readyBits() {
            int bits = 0;
            for (int d = 0; d < duties; d++) {
                if (isReady(d)) {
                    bits |= bit(d);
                }
            }
            return bits;
        }

        int olderThan(int months) {
            int bits = 0;
            for (int d = 0; d < duties; d++) {
                if (isWaiting(d) && at(age, d) > months) {
                    bits |= bit(d);
                }
            }
            return bits;
        }

        int ownedBy(int person) {
            int bits = 0;
            for (int d = 0; d < duties; d++) {
                if (at(owner, d) == person) {
                    bits |= bit(d);
                }
            }
            return bits;
        }

        int loadOf(int person) {
            return sumOver(left, bitsIn(WAITING) & ownedBy(person));
        }

        int standingBetween(int from, int to) {
            int bits = 0;
            for (int p = 0; p < people; p++) {
                if (at(kerb, p) >= from && at(kerb, p) <= to) {
                    bits |= bit(p);
                }
            }
            return bits;
        }

        int placeOf(int duty) {
            if (!isWaiting(duty)) {
                return NONE;
            }
            int own = at(age, duty);
            int place = 0;
            for (int d = 0; d < duties; d++) {
                int other = at(age, d);
                if (isWaiting(d) && (other < own || other == own && d < duty)) {
                    place++;
                }
            }
            return place;
        }

        int dutyAt(int place) {
            for (int d = 0; d < duties; d++) {
                if (isWaiting(d) && placeOf(d) == place) {
                    return d;
                }
            }
            return NONE;
        }

        int passesOf(int duty) {
            if (!isWaiting(duty)) {
                return 0;
            }
            int notOlder = bitsIn(WAITING) & ~olderThan(at(age, duty));
            return pace * Integer.bitCount(notOlder);
        }

        int canBits() {
            int bits = 0;
            for (int d = 0; d < duties; d++) {
                if (isReady(d) && at(left, d) <= passesOf(d)) {
                    bits |= bit(d);
                }
            }
            return bits;
        }

        int kerbAt(int duty, int hour) {
            int place = placeOf(duty);
            if (place == NONE || pace < 1) {
                return NONE;
            }
            int kerb = hour / pace - place;
            return kerb < 0 ? NONE : Math.min(kerb, LAST_KERB + 1);
        }

        void finish(int duty) {
            setAt(left, duty, 0);
            setAt(state, duty, DONE);
        }

        void growOlder(int duty) {
            setAt(age, duty, Math.min(MOST_AGE, at(age, duty) + 1));
        }

        /** A day more but for the parade, which leaves nothing but rows of the log. */
        void passDay(Law law, boolean draws) {
            int taken = 0;
            for (int p = 0; p < people; p++) {
                boolean isIll = draws && draw() % 100 < ill;
                if (!isIll) {
                    taken |= work(p, taken);
                }
            }
            day++;
            if (day > LAST_DAY) {
                day = 1;
                month = Math.min(9999, month + 1);
                passMonth(law);
            }
        }

        /** As so many days without illness; this street itself goes ahead. */
        int daysTillDone(Law law, int duty) {
            for (int n = 0; n <= MOST_DAYS; n++) {
                if (at(state, duty) == DONE) {
                    return n;
                }
                passDay(law, false);
            }
            return NONE;
        }

        int daysTillNoneWaits(Law law) {
            for (int n = 0; n <= MOST_DAYS; n++) {
                if (bitsIn(WAITING) == 0) {
                    return n;
                }
                passDay(law, false);
            }
            return NEVER;
        }

        private int draw() {
            seed = seed * 1103515245 + 12345;
            return seed >>> 16 & 32767;
        }

        /** Answers the tools that this one had, as bits: nobody behind it has them on this day. */
        private int work(int person, int taken) {
            int had = 0;
            int hours = at(free, person);
            for (int d = 0; d < duties && hours > 0; d++) {
                if (at(owner, d) == person && isReady(d) && !has(taken, at(tool, d))) {
                    int worked = Math.min(hours, at(left, d));
                    hours -= worked;
                    had |= bit(at(tool, d));
                    setAt(left, d, at(left, d) - worked);
                    if (at(left, d) == 0) {
                        finish(d);
                    }
                }
            }
            return had;
        }

        private void passMonth(Law law) {
            for (int d = 0; d < duties; d++) {
                if (isWaiting(d)) {
                    int grown = at(left, d) + law.growthOf(this, d);
                    setAt(left, d, Math.min(MOST_LEFT, grown));
                }
                if (at(state, d) != DONE) {
                    growOlder(d);
                }
            }
        }
    }

    /** What duties lean on, one on another; a done one does not end the chain. */
    private static final class Leaning {
        static int chainOf(Street street, int duty) {
            int chain = 0;
            int other = at(street.leans, duty);
            for (int i = 0; i < MOST_DUTIES && other != NONE; i++) {
                chain |= bit(other);
                other = at(street.leans, other);
            }
            return chain;
        }

        static int leaningOn(Street street, int duty) {
            int bits = 0;
            for (int d = 0; d < street.duties; d++) {
                if (has(chainOf(street, d), duty)) {
                    bits |= bit(d);
                }
            }
            return bits;
        }

        static int ringBits(Street street) {
            int bits = 0;
            for (int d = 0; d < street.duties; d++) {
                if (has(chainOf(street, d), d)) {
                    bits |= bit(d);
                }
            }
            return bits;
        }

        static int hoursTill(Street street, int duty) {
            return street.isWaiting(duty) ? hoursOf(street, bit(duty) | chainOf(street, duty)) : 0;
        }

        static int hoursTillYoung(Street street, int months) {
            int older = street.olderThan(months);
            int set = older;
            for (int d = 0; d < street.duties; d++) {
                if (has(older, d)) {
                    set |= chainOf(street, d);
                }
            }
            return hoursOf(street, set & ~street.bitsIn(DONE));
        }

        private static int hoursOf(Street street, int set) {
            int stuck = ringBits(street) | street.bitsIn(FORGOTTEN);
            return (set & stuck) != 0 ? NONE : sumOver(street.left, set);
        }
    }

    /** The best of several sets, pairs, choices or numbers of days. */
    private static final class Choosing {
        final int[] places = new int[MOST_DUTIES];
        final int[] shames = new int[MOST_DUTIES];

        int mostCalled(Street street) {
            int can = street.canBits();
            for (int d = 0; d < street.duties; d++) {
                setAt(places, d, street.placeOf(d));
            }
            int best = 0;
            for (int set = 1; set <= can; set++) {
                boolean isOfCan = (set & ~can) == 0;
                if (isOfCan && Integer.bitCount(set) > Integer.bitCount(best) && canBeCalledTogether(street, set)) {
                    best = set;
                }
            }
            return best;
        }

        private boolean canBeCalledTogether(Street street, int set) {
            int owners = 0;
            int taken = 0;
            for (int d = 0; d < street.duties; d++) {
                if (has(set, d)) {
                    int owner = bit(at(street.owner, d));
                    if ((owners & owner) != 0) {
                        return false;
                    }
                    owners |= owner;
                    taken |= bit(at(places, d));
                }
            }
            return (taken & taken << 1) == 0;
        }

        /** The others shame the least by the set that shames the most itself. */
        int leastShame(Street street, Law law, int hours) {
            int waiting = street.bitsIn(WAITING);
            for (int d = 0; d < street.duties; d++) {
                setAt(shames, d, law.shameOf(street, d));
            }
            int best = 0;
            int most = 0;
            for (int set = 0; set <= waiting; set++) {
                if ((set & ~waiting) == 0 && sumOver(street.left, set) <= hours && leansWithin(street, set)) {
                    int shame = sumOver(shames, set);
                    if (shame > most) {
                        best = set;
                        most = shame;
                    }
                }
            }
            return best;
        }

        private static boolean leansWithin(Street street, int set) {
            for (int d = 0; d < street.duties; d++) {
                if (has(set, d) && !street.leansFreely(d) && !has(set, at(street.leans, d))) {
                    return false;
                }
            }
            return true;
        }

        static int firstSwap(Street street, int person, int other) {
            int waiting = street.bitsIn(WAITING);
            int own = waiting & street.ownedBy(person);
            int others = waiting & street.ownedBy(other);
            for (int d = 0; d < street.duties; d++) {
                for (int e = 0; e < street.duties; e++) {
                    if (has(own, d) && has(others, e)) {
                        int more = at(street.left, e) - at(street.left, d);
                        int gain = gainOf(street, person, more);
                        int otherGain = gainOf(street, other, -more);
                        if (gain >= 0 && otherGain >= 0 && gain + otherGain > 0) {
                            return MOST_DUTIES * d + e;
                        }
                    }
                }
            }
            return NONE;
        }

        /** By how many days its needs are fewer with so many hours more. */
        private static int gainOf(Street street, int person, int more) {
            int load = street.loadOf(person);
            int free = at(street.free, person);
            return needsOf(load, free) - needsOf(load + more, free);
        }

        static int restingChoices(int shame, int left) {
            int bits = 0;
            for (int first = 0; first < 2; first++) {
                for (int second = 0; second < 2; second++) {
                    if (isBest(first, second, shame, left) && isBest(second, first, shame, left)) {
                        bits |= bit(2 * first + second);
                    }
                }
            }
            return bits;
        }

        private static boolean isBest(int own, int other, int shame, int left) {
            return payOf(own, other, shame, left) >= payOf(1 - own, other, shame, left);
        }

        private static int payOf(int own, int other, int shame, int left) {
            if (own == 0) {
                return other == 0 ? shame - left / 2 : shame - left;
            }
            return other == 0 ? shame : -shame;
        }

        /** Of what comes in so many hundredths of the days, alike on each: on k of n days at least. */
        static int oddsOf(int hundredths, int n, int k) {
            long hits = 0;
            long whole = power(100, n);
            long ways = 1;
            for (int days = 0; days <= n; days++) {
                if (days >= k) {
                    hits += ways * power(hundredths, days) * power(100 - hundredths, n - days);
                }
                ways = ways * (n - days) / (days + 1);
            }
            return whole > 0 ? (int) (hits * 10000 / whole) : 0;
        }

        private static long power(int base, int exponent) {
            long power = 1;
            for (int i = 0; i < exponent; i++) {
                power *= base;
            }
            return power;
        }

        static int daysToLeaveFree(int wellHundredths, int free, int hours) {
            int wellDays = needsOf(hours, free);
            for (int n = 1; n <= MOST_ODDS; n++) {
                if (oddsOf(wellHundredths, n, wellDays) >= 9000) {
                    return n;
                }
            }
            return NONE;
        }
    }
}
