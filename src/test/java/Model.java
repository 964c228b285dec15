import java.util.ArrayDeque;
import java.util.ArrayList;
import java.util.Arrays;
import java.util.Comparator;
import java.util.Deque;
import java.util.List;
import java.util.NoSuchElementException;
import java.util.TreeSet;
import java.util.function.IntPredicate;

/** The document told a second time, in another way and with the whole library: RandomTest sets both side by side. */
final class Model {
    static final int NONE = -1;

    static final class Person implements Cloneable {
        int kerb;
        int free;

        Person copy() {
            Person p = new Person();
            p.kerb = kerb;
            p.free = free;
            return p;
        }
    }

    static final class Duty {
        int person;
        int left;
        int age;
        Integer tool;
        Integer on;
        int state;

        Duty copy() {
            Duty d = new Duty();
            d.person = person;
            d.left = left;
            d.age = age;
            d.tool = tool;
            d.on = on;
            d.state = state;
            return d;
        }
    }

    interface Test { boolean of(World w, int duty); }

    interface Part { int of(World w, int duty); }

    static final class Line {
        String word;
        int n;
        Test test = (w, d) -> true;
    }

    /** Everything but the tape, fault(), the acts and the image. */
    static final class World {
        List<Person> people = new ArrayList<>();
        List<Duty> duties = new ArrayList<>();
        int texts;
        int day = 1;
        int month;
        int ill;
        int pace = 2;
        int price = 3;
        int seed = 1;
        List<Line> law;
        Deque<int[]> log = new ArrayDeque<>();

        World copy() {
            World w = new World();
            people.forEach(p -> w.people.add(p.copy()));
            duties.forEach(d -> w.duties.add(d.copy()));
            w.texts = texts;
            w.day = day;
            w.month = month;
            w.ill = ill;
            w.pace = pace;
            w.price = price;
            w.seed = seed;
            w.law = law;
            w.log.addAll(log);
            return w;
        }

        boolean waits(int d) { return duties.get(d).state == 0; }

        boolean leansOnDone(int d) {
            Integer on = duties.get(d).on;
            return on == null || duties.get(on).state == 1;
        }

        boolean ready(int d) { return waits(d) && leansOnDone(d); }

        int sum(String word, int d) {
            int sum = 0;
            if (law != null) {
                for (Line line : law) {
                    if (line.word.equals(word) && line.test.of(this, d)) {
                        sum += line.n;
                    }
                }
            }
            return sum;
        }

        int grows(int d) { return sum("grow", d); }

        int shames(int d) { return Math.max(0, duties.get(d).age + sum("shame", d) - sum("ease", d)); }

        List<Integer> parade() {
            List<Integer> row = new ArrayList<>();
            for (int d = 0; d < duties.size(); d++) {
                if (waits(d)) {
                    row.add(d);
                }
            }
            row.sort(Comparator.<Integer>comparingInt(d -> duties.get(d).age).thenComparingInt(d -> d));
            return row;
        }

        int passes(int d) {
            return !waits(d) ? 0 : pace * (int) parade().stream().filter(e -> duties.get(e).age <= duties.get(d).age).count();
        }

        int shameOfAll() { return parade().stream().mapToInt(this::shames).sum(); }

        int bits(IntPredicate which) {
            int bits = 0;
            for (int d = 0; d < duties.size(); d++) {
                bits += which.test(d) ? 1 << d : 0;
            }
            return bits;
        }

        int load(int p) {
            return parade().stream().filter(d -> duties.get(d).person == p).mapToInt(d -> duties.get(d).left).sum();
        }

        static int needs(int load, int free) { return load == 0 ? 0 : free == 0 ? 1000 : (int) Math.ceil(load / (double) free); }

        void day(boolean draws) {
            int[] holder = new int[6];
            Arrays.fill(holder, NONE);
            for (int p = 0; p < people.size(); p++) {
                if (draws) {
                    seed = 1103515245 * seed + 12345;
                    if (((seed >> 16) & 0x7fff) % 100 < ill) {
                        continue;
                    }
                }
                int hours = people.get(p).free;
                for (int d = 0; d < duties.size(); d++) {
                    Duty x = duties.get(d);
                    boolean toolFree = x.tool == null || holder[x.tool] == NONE || holder[x.tool] == p;
                    if (x.person != p || !ready(d) || !toolFree || hours == 0) {
                        continue;
                    }
                    int worked = Math.min(hours, x.left);
                    hours -= worked;
                    x.left -= worked;
                    if (x.left == 0) {
                        x.state = 1;
                    }
                    if (x.tool != null) {
                        holder[x.tool] = p;
                    }
                }
            }
            if (++day == 31) {
                day = 1;
                month = Math.min(month + 1, 9999);
                int[] grown = new int[duties.size()];
                for (int d = 0; d < grown.length; d++) {
                    grown[d] = waits(d) ? grows(d) : 0;
                }
                for (int d = 0; d < grown.length; d++) {
                    Duty x = duties.get(d);
                    if (x.state != 1) {
                        x.age = Math.min(99, x.age + 1);
                        x.left = Math.min(99, x.left + grown[d]);
                    }
                }
            }
        }

        int all() {
            World w = copy();
            for (int n = 0; n <= 90; n++) {
                if (w.parade().isEmpty()) {
                    return n;
                }
                w.day(false);
            }
            return Integer.MAX_VALUE;
        }

        /** What it leans on, one on another. */
        TreeSet<Integer> before(int d) {
            TreeSet<Integer> set = new TreeSet<>();
            Integer on = duties.get(d).on;
            while (on != null && set.add(on)) {
                on = duties.get(on).on;
            }
            return set;
        }

        boolean inRing(int d) { return before(d).contains(d); }

        int soon(int d) {
            if (!waits(d)) {
                return 0;
            }
            int hours = duties.get(d).left;
            if (inRing(d)) {
                return NONE;
            }
            for (int e : before(d)) {
                if (inRing(e) || duties.get(e).state == 2) {
                    return NONE;
                }
                hours += duties.get(e).left;
            }
            return hours;
        }

        boolean gap(int age) {
            return age <= 98 && parade().stream().noneMatch(d -> duties.get(d).age == age)
                && parade().stream().anyMatch(d -> duties.get(d).age > age);
        }
    }

    World w = new World();
    final Deque<World> acts = new ArrayDeque<>();
    World image;
    byte[] tape = new byte[0];
    int fault = NONE;

    // ---- the reading of texts ----

    private static final class Wrong extends Exception {
        private static final long serialVersionUID = 1;
        final int at;

        Wrong(int at) {
            super(null, null, false, false);
            this.at = at;
        }
    }

    /** A text as a list of pieces; a piece behind the last one is the empty one. */
    private static final class Text {
        final List<String> pieces = new ArrayList<>();
        final List<Integer> at = new ArrayList<>();
        int next;

        Text(byte[] bytes) {
            for (int i = 0; i < bytes.length;) {
                int j = i + 1;
                char c = (char) (bytes[i] & 255);
                if (c >= 'a' && c <= 'z') {
                    while (j < bytes.length && bytes[j] >= 'a' && bytes[j] <= 'z') {
                        j++;
                    }
                } else if (c >= '0' && c <= '9') {
                    while (j < bytes.length && bytes[j] >= '0' && bytes[j] <= '9') {
                        j++;
                    }
                }
                if (c != ' ') {
                    StringBuilder s = new StringBuilder();
                    for (int k = i; k < j; k++) {
                        s.append((char) (bytes[k] & 255));
                    }
                    pieces.add(s.toString());
                    at.add(i);
                }
                i = j;
            }
            pieces.add("");
            at.add(bytes.length);
        }

        String peek() { return pieces.get(next); }

        boolean is(String... any) { return Arrays.asList(any).contains(peek()); }

        String take() { return pieces.get(next++); }

        void need(String word) throws Wrong {
            if (!is(word)) {
                throw wrong();
            }
            next++;
        }

        Wrong wrong() { return new Wrong(at.get(next)); }

        int number(int from, int to) throws Wrong {
            if (!peek().matches("[0-9]{1,3}")) {
                throw wrong();
            }
            int n = Integer.parseInt(peek());
            if (n < from || n > to) {
                throw wrong();
            }
            next++;
            return n;
        }
    }

    private interface OneLine { void read(Text t) throws Wrong; }

    private static int lines(Text t, int most, OneLine one) throws Wrong {
        if (t.is("")) {
            return 0;
        }
        int lines = 0;
        while (true) {
            if (lines == most) {
                throw t.wrong();
            }
            one.read(t);
            lines++;
            if (t.is("")) {
                return lines;
            }
            t.need(";");
        }
    }

    private static void streetLine(World v, Text t) throws Wrong {
        if (t.is("person") && v.people.size() < 6) {
            t.take();
            Person p = new Person();
            t.need("at");
            p.kerb = t.number(0, 15);
            t.need("free");
            p.free = t.number(0, 9);
            v.people.add(p);
        } else if (t.is("duty") && v.duties.size() < 12) {
            t.take();
            Duty d = new Duty();
            t.need("of");
            d.person = t.number(0, v.people.size() - 1);
            t.need("takes");
            d.left = t.number(1, 99);
            if (t.is("age")) {
                t.take();
                d.age = t.number(0, 99);
            }
            if (t.is("tool")) {
                t.take();
                d.tool = t.number(0, 5);
            }
            if (t.is("on")) {
                t.take();
                d.on = t.number(0, v.duties.size() - 1);
            }
            v.duties.add(d);
        } else if (t.is("forgotten")) {
            t.take();
            int d = t.number(0, v.duties.size() - 1);
            if (!v.waits(d)) {
                t.next--;
                throw t.wrong();
            }
            v.duties.get(d).state = 2;
        } else if (t.is("ill", "pace", "price", "day", "month")) {
            String word = t.take();
            switch (word) {
                case "ill": v.ill = t.number(0, 100); break;
                case "pace": v.pace = t.number(1, 9); break;
                case "price": v.price = t.number(0, 50); break;
                case "day": v.day = t.number(1, 30); break;
                default: v.month = t.number(0, 999); break;
            }
        } else {
            throw t.wrong();
        }
    }

    private static Line lawLine(Text t) throws Wrong {
        Line line = new Line();
        if (!t.is("grow", "shame", "ease")) {
            throw t.wrong();
        }
        line.word = t.take();
        line.n = t.number(0, 60);
        if (t.is("if")) {
            t.take();
            line.test = any(t, 0);
        }
        return line;
    }

    private static Test any(Text t, int deep) throws Wrong {
        Test one = every(t, deep);
        while (t.is("or")) {
            t.take();
            Test a = one;
            Test b = every(t, deep);
            one = (w, d) -> a.of(w, d) || b.of(w, d);
        }
        return one;
    }

    private static Test every(Text t, int deep) throws Wrong {
        Test one = atom(t, deep);
        while (t.is("and")) {
            t.take();
            Test a = one;
            Test b = atom(t, deep);
            one = (w, d) -> a.of(w, d) && b.of(w, d);
        }
        return one;
    }

    private static Test atom(Text t, int deep) throws Wrong {
        if (t.is("not", "(")) {
            if (deep == 6) {
                throw t.wrong();
            }
            if (t.take().equals("not")) {
                Test a = atom(t, deep + 1);
                return (w, d) -> !a.of(w, d);
            }
            Test a = any(t, deep + 1);
            t.need(")");
            return a;
        }
        if (t.is("ready")) {
            t.take();
            return World::leansOnDone;
        }
        if (t.is("old")) {
            t.take();
            return (w, d) -> w.duties.get(d).age > 11;
        }
        Part a = sum(t);
        if (!t.is("<", ">")) {
            throw t.wrong();
        }
        boolean less = t.take().equals("<");
        Part b = sum(t);
        return (w, d) -> less ? a.of(w, d) < b.of(w, d) : a.of(w, d) > b.of(w, d);
    }

    private static Part sum(Text t) throws Wrong {
        Part one = part(t);
        while (t.is("+")) {
            t.take();
            Part a = one;
            Part b = part(t);
            one = (w, d) -> a.of(w, d) + b.of(w, d);
        }
        return one;
    }

    private static Part part(Text t) throws Wrong {
        if (t.peek().matches("[0-9]+")) {
            int n = t.number(0, 999);
            return (w, d) -> n;
        }
        if (!t.is("duty", "left", "age", "tool", "owner", "kerb", "day")) {
            throw t.wrong();
        }
        switch (t.take()) {
            case "duty": return (w, d) -> d;
            case "left": return (w, d) -> w.duties.get(d).left;
            case "age": return (w, d) -> w.duties.get(d).age;
            case "tool": return (w, d) -> w.duties.get(d).tool == null ? 9 : w.duties.get(d).tool;
            case "owner": return (w, d) -> w.duties.get(d).person;
            case "kerb": return (w, d) -> w.people.get(w.duties.get(d).person).kerb;
            default: return (w, d) -> w.day;
        }
    }

    // ---- what the calls share ----

    private void index(int i, int size) {
        if (i < 0 || i >= size) {
            throw new IndexOutOfBoundsException();
        }
    }

    private void argument(boolean right) {
        if (!right) {
            throw new IllegalArgumentException();
        }
    }

    private void state(boolean right) {
        if (!right) {
            throw new IllegalStateException();
        }
    }

    private void element(int what, int last) {
        if (what < 0 || what > last) {
            throw new NoSuchElementException();
        }
    }

    private void act() {
        acts.addLast(w.copy());
        if (acts.size() > 12) {
            acts.removeFirst();
        }
    }

    private static int toInt(Integer n) { return n == null ? NONE : n; }

    private boolean has(int set, int d) { return (set >> d & 1) == 1; }

    private byte[] useUp() {
        byte[] was = tape;
        tape = new byte[0];
        return was;
    }

    private List<Integer> fitting() {
        byte[] told = useUp();
        argument(told.length <= 40 && told.length % 2 == 0);
        List<Integer> fit = new ArrayList<>();
        for (int i = 0; i < told.length; i += 2) {
            argument(told[i] >= 0 && told[i] <= told[i + 1] && told[i + 1] <= 15);
        }
        for (int p = 0; p < w.people.size(); p++) {
            boolean fits = true;
            for (int i = 0; i < told.length; i += 2) {
                fits &= w.people.get(p).kerb >= told[i] && w.people.get(p).kerb <= told[i + 1];
            }
            if (fits) {
                fit.add(p);
            }
        }
        return fit;
    }

    /** Exact: counts in units of a hundredth to the n-th. */
    private static java.math.BigInteger chance(int hundredths, int n, int k) {
        if (n == 0) {
            return k <= 0 ? java.math.BigInteger.ONE : java.math.BigInteger.ZERO;
        }
        java.math.BigInteger hit = chance(hundredths, n - 1, k - 1).multiply(java.math.BigInteger.valueOf(hundredths));
        return hit.add(chance(hundredths, n - 1, k).multiply(java.math.BigInteger.valueOf(100 - hundredths)));
    }

    private static int inTenThousand(int hundredths, int n, int k) {
        return chance(hundredths, n, k).multiply(java.math.BigInteger.valueOf(10000))
            .divide(java.math.BigInteger.valueOf(100).pow(n)).intValue();
    }

    // ---- the calls ----

    long feed(int... n) {
        if (tape.length + 20 > 400) {
            return NONE;
        }
        int had = tape.length;
        tape = Arrays.copyOf(tape, had + 20);
        java.nio.ByteBuffer.wrap(tape, had, 20).putInt(n[0]).putInt(n[1]).putInt(n[2]).putInt(n[3]).putInt(n[4]);
        return tape.length;
    }

    long end(int n) {
        if (n < 0 || n > tape.length) {
            return 0;
        }
        tape = Arrays.copyOf(tape, n);
        return 1;
    }

    long street() {
        World v = w.copy();
        fault = NONE;
        try {
            lines(new Text(useUp()), 14, t -> streetLine(v, t));
        } catch (Wrong e) {
            fault = e.at;
        }
        argument(fault == NONE);
        if (w.texts == 12) {
            throw new UnsupportedOperationException();
        }
        w = v;
        acts.clear();
        return ++w.texts;
    }

    long law() {
        List<Line> read = new ArrayList<>();
        fault = NONE;
        try {
            lines(new Text(useUp()), 12, t -> read.add(lawLine(t)));
        } catch (Wrong e) {
            fault = e.at;
        }
        argument(fault == NONE);
        w.law = read;
        acts.clear();
        return read.size();
    }

    long fault() { return fault; }

    long person(int p, int what) {
        index(p, w.people.size());
        element(what, 5);
        int whole = w.shameOfAll();
        int own = w.parade().stream().filter(d -> w.duties.get(d).person == p).mapToInt(w::shames).sum();
        int[] answers = {w.people.get(p).kerb, w.people.get(p).free, w.bits(d -> w.duties.get(d).person == p), w.load(p),
            World.needs(w.load(p), w.people.get(p).free), whole == 0 ? 0 : 100 * own / whole};
        return answers[what];
    }

    long duty(int d, int what) {
        index(d, w.duties.size());
        element(what, 10);
        Duty x = w.duties.get(d);
        int[] answers = {x.person, x.left, x.age, toInt(x.tool), toInt(x.on), x.state, w.ready(d) ? 1 : 0, w.grows(d), w.shames(d),
            w.parade().indexOf(d), w.passes(d)};
        return answers[what];
    }

    long call(int d) {
        index(d, w.duties.size());
        int passes = w.passes(d);
        state(w.ready(d) && w.duties.get(d).left <= passes);
        act();
        w.duties.get(d).left = 0;
        w.duties.get(d).state = 1;
        return passes;
    }

    long put(int d) {
        index(d, w.duties.size());
        state(w.waits(d));
        act();
        return w.duties.get(d).age = Math.min(99, w.duties.get(d).age + 1);
    }

    long forget(int d) {
        index(d, w.duties.size());
        state(w.waits(d));
        act();
        w.duties.get(d).state = 2;
        return w.duties.get(d).left;
    }

    long recall(int d) {
        index(d, w.duties.size());
        state(w.duties.get(d).state == 2);
        act();
        w.duties.get(d).state = 0;
        return w.duties.get(d).age;
    }

    long hand(int d, int p) {
        index(d, w.duties.size());
        index(p, w.people.size());
        argument(w.duties.get(d).person != p);
        state(w.duties.get(d).state != 1);
        act();
        int was = w.duties.get(d).person;
        w.duties.get(d).person = p;
        return was;
    }

    long lean(int d, int e) {
        index(d, w.duties.size());
        index(e + 1, w.duties.size() + 1);
        argument(d != e);
        act();
        Integer was = w.duties.get(d).on;
        w.duties.get(d).on = e == NONE ? null : (Integer) e;
        return toInt(was);
    }

    long free(int p, int n) {
        index(p, w.people.size());
        argument(n >= 0 && n <= 9);
        act();
        int was = w.people.get(p).free;
        w.people.get(p).free = n;
        return was;
    }

    long days(int n) {
        argument(n >= 1 && n <= 90);
        act();
        int before = Integer.bitCount(w.bits(d -> w.duties.get(d).state == 1));
        for (int i = 0; i < n; i++) {
            w.day(true);
            if (w.day == 2) {
                int place = 0;
                for (int d : w.parade()) {
                    w.log.addFirst(new int[] {w.month, d, place++, w.shames(d)});
                }
                while (w.log.size() > 60) {
                    w.log.removeLast();
                }
            }
        }
        return Integer.bitCount(w.bits(d -> w.duties.get(d).state == 1)) - before;
    }

    long parade(int k) { return k < 0 || k >= w.parade().size() ? NONE : w.parade().get(k); }

    long can() { return w.bits(d -> w.ready(d) && w.duties.get(d).left <= w.passes(d)); }

    long greets(int d, int kerb) {
        index(d, w.duties.size());
        index(kerb, 16);
        return w.waits(d) ? w.pace * (w.parade().indexOf(d) + kerb) : NONE;
    }

    long where(int d, int hour) {
        index(d, w.duties.size());
        argument(hour >= 0 && hour <= 300);
        int k = hour / w.pace - w.parade().indexOf(d);
        return !w.waits(d) || k < 0 ? NONE : k > 15 ? 16 : k;
    }

    long crowd(int from, int to, int hour) {
        index(from, 16);
        index(to, 16);
        argument(hour >= 0 && hour <= 300 && from <= to);
        return w.parade().stream().filter(d -> where(d, hour) >= from && where(d, hour) <= to).count();
    }

    long most() {
        int can = (int) can();
        List<Integer> parade = w.parade();
        int best = 0;
        for (int set = 0; set < 1 << w.duties.size(); set++) {
            boolean right = (set & ~can) == 0;
            for (int d : parade) {
                for (int e : parade) {
                    if (d != e && has(set, d) && has(set, e)) {
                        right &= w.duties.get(d).person != w.duties.get(e).person && Math.abs(parade.indexOf(d) - parade.indexOf(e)) != 1;
                    }
                }
                if (!right) {
                    break;
                }
            }
            if (right && Integer.bitCount(set) > Integer.bitCount(best)) {
                best = set;
            }
        }
        return best;
    }

    long does(int h, boolean shame) {
        argument(h >= 0 && h <= 99);
        int bestSet = 0;
        int least = Integer.MAX_VALUE;
        int n = w.duties.size();
        int[] shames = new int[n];
        for (int d = 0; d < n; d++) {
            shames[d] = w.shames(d);
        }
        for (int set = 0; set < 1 << n; set++) {
            int hours = 0;
            int others = 0;
            boolean right = true;
            for (int d = 0; d < n; d++) {
                if (has(set, d)) {
                    Integer on = w.duties.get(d).on;
                    right &= w.waits(d) && (on == null || w.duties.get(on).state == 1 || has(set, on));
                    hours += w.duties.get(d).left;
                } else if (w.waits(d)) {
                    others += shames[d];
                }
            }
            if (right && hours <= h && others < least) {
                least = others;
                bestSet = set;
            }
        }
        return shame ? least : bestSet;
    }

    long soon(int d) {
        index(d, w.duties.size());
        return w.soon(d);
    }

    long longest() { return w.parade().stream().mapToInt(w::soon).filter(n -> n != NONE).max().orElse(0); }

    long ring() { return w.bits(w::inRing); }

    long before(int d) {
        index(d, w.duties.size());
        return w.bits(w.before(d)::contains);
    }

    long after(int d) {
        index(d, w.duties.size());
        return w.bits(e -> w.before(e).contains(d));
    }

    long depth(int d) {
        index(d, w.duties.size());
        return w.before(d).stream().filter(e -> w.duties.get(e).state != 1).count();
    }

    long young(int a) {
        argument(a >= 0 && a <= 98);
        TreeSet<Integer> set = new TreeSet<>();
        for (int d : w.parade()) {
            if (w.duties.get(d).age > a) {
                set.add(d);
                set.addAll(w.before(d));
            }
        }
        set.removeIf(d -> w.duties.get(d).state == 1);
        boolean never = set.stream().anyMatch(d -> w.inRing(d) || w.duties.get(d).state == 2);
        return never ? NONE : set.stream().mapToInt(d -> w.duties.get(d).left).sum();
    }

    long older(int a) {
        argument(a >= 0 && a <= 99);
        return w.parade().stream().filter(d -> w.duties.get(d).age > a).count();
    }

    long whose() { return fitting().stream().mapToInt(p -> 1 << p).sum(); }

    long ask() {
        List<Integer> fit = fitting();
        if (fit.size() < 2) {
            return NONE;
        }
        int best = NONE;
        long least = Long.MAX_VALUE;
        for (int k = 0; k <= 14; k++) {
            int kerb = k;
            long below = fit.stream().filter(p -> w.people.get(p).kerb <= kerb).count();
            if (Math.max(below, fit.size() - below) < least) {
                least = Math.max(below, fit.size() - below);
                best = k;
            }
        }
        return best;
    }

    long gap() {
        int age = 0;
        while (age <= 98 && !w.gap(age)) {
            age++;
        }
        return age <= 98 ? age : NONE;
    }

    long lost() { return w.bits(d -> w.duties.get(d).state == 2); }

    long missed() { return w.bits(d -> w.duties.get(d).state == 2 && w.gap(w.duties.get(d).age)); }

    long swap(int p, int q) {
        index(p, w.people.size());
        index(q, w.people.size());
        argument(p != q);
        int best = Integer.MAX_VALUE;
        for (int d : w.parade()) {
            for (int e : w.parade()) {
                if (w.duties.get(d).person == p && w.duties.get(e).person == q) {
                    World v = w.copy();
                    v.duties.get(d).person = q;
                    v.duties.get(e).person = p;
                    int a = World.needs(w.load(p), w.people.get(p).free);
                    int b = World.needs(w.load(q), w.people.get(q).free);
                    int c = World.needs(v.load(p), w.people.get(p).free);
                    int f = World.needs(v.load(q), w.people.get(q).free);
                    if (c <= a && f <= b && (c < a || f < b)) {
                        best = Math.min(best, 12 * d + e);
                    }
                }
            }
        }
        return best == Integer.MAX_VALUE ? NONE : best;
    }

    long rests(int p, int q, int d) {
        index(p, w.people.size());
        index(q, w.people.size());
        index(d, w.duties.size());
        argument(p != q);
        int shame = w.shames(d);
        int left = w.duties.get(d).left;
        int[][] first = {{shame - left / 2, shame - left}, {shame, -shame}};
        int bits = 0;
        for (int a = 0; a < 2; a++) {
            for (int b = 0; b < 2; b++) {
                if (first[1 - a][b] <= first[a][b] && first[1 - b][a] <= first[b][a]) {
                    bits += 1 << 2 * a + b;
                }
            }
        }
        return bits;
    }

    long sponsor() {
        return w.parade().stream().mapToInt(d -> Math.max(0, w.price * w.duties.get(d).age - w.duties.get(d).left)).sum();
    }

    long idle() {
        int best = NONE;
        for (int p = w.people.size() - 1; p >= 0; p--) {
            best = best == NONE || w.load(p) <= w.load(best) ? p : best;
        }
        return best;
    }

    long worst() {
        int best = NONE;
        for (int d = w.duties.size() - 1; d >= 0; d--) {
            if (w.waits(d) && (best == NONE || w.shames(d) >= w.shames(best))) {
                best = d;
            }
        }
        return best;
    }

    long odds(int n, int k) {
        argument(n >= 0 && n <= 6 && k >= 0 && k <= 6);
        return inTenThousand(w.ill, n, k);
    }

    long spare(int p, int h) {
        index(p, w.people.size());
        argument(h >= 1 && h <= 54);
        int free = w.people.get(p).free;
        for (int n = 1; n <= 6; n++) {
            for (int well = 0; well <= n; well++) {
                if (free * well >= h && inTenThousand(100 - w.ill, n, well) >= 9000) {
                    return n;
                }
            }
        }
        return NONE;
    }

    long done(int d) {
        index(d, w.duties.size());
        World v = w.copy();
        for (int n = 0; n <= 90; n++) {
            if (v.duties.get(d).state == 1) {
                return n;
            }
            v.day(false);
        }
        return NONE;
    }

    long all() { return w.all() == Integer.MAX_VALUE ? NONE : w.all(); }

    long help() {
        int best = NONE;
        int soonest = w.all();
        for (int p = 0; p < w.people.size(); p++) {
            World v = w.copy();
            v.people.get(p).free = Math.min(9, v.people.get(p).free + 1);
            if (v.all() < soonest) {
                soonest = v.all();
                best = p;
            }
        }
        return best;
    }

    long crux() {
        int best = NONE;
        int soonest = w.all();
        for (int d : w.parade().stream().sorted().toList()) {
            World v = w.copy();
            v.duties.get(d).state = 1;
            v.duties.get(d).left = 0;
            if (v.all() < soonest) {
                soonest = v.all();
                best = d;
            }
        }
        return best;
    }

    long sick(int p) {
        index(p, w.people.size());
        World v = w.copy();
        v.people.get(p).free = 0;
        return all() == NONE ? NONE : v.all() == Integer.MAX_VALUE ? 1000 : v.all() - w.all();
    }

    long alike() {
        List<Integer> parade = w.parade();
        return parade.stream().mapToLong(d -> parade.stream().filter(e -> d < e && w.duties.get(d).left == w.duties.get(e).left
            && w.duties.get(d).age == w.duties.get(e).age).count()).sum();
    }

    long ahead(int d, int n, int what) {
        index(d, w.duties.size());
        argument(n >= 0 && n <= 90);
        element(what, 2);
        World v = w.copy();
        for (int i = 0; i < n; i++) {
            v.day(false);
        }
        Duty x = v.duties.get(d);
        return new int[] {x.left, x.age, x.state}[what];
    }

    private World tried(int n, int seed) {
        World v = w.copy();
        v.seed = seed;
        for (int i = 0; i < n; i++) {
            v.day(true);
        }
        return v;
    }

    long trial(int n, boolean done) {
        argument(n >= 0 && n <= 90);
        World v = tried(n, w.seed);
        return done ? v.bits(d -> v.duties.get(d).state == 1) : v.shameOfAll();
    }

    long span(int n, boolean most) {
        argument(n >= 0 && n <= 90);
        java.util.stream.IntStream shames = java.util.stream.IntStream.rangeClosed(1, 6).map(seed -> tried(n, seed).shameOfAll());
        return most ? shames.max().getAsInt() : shames.min().getAsInt();
    }

    long led(int d, boolean month) {
        index(d, w.duties.size());
        return month ? w.log.stream().filter(row -> row[1] == d).mapToInt(row -> row[0]).findFirst().orElse(NONE)
            : w.log.stream().filter(row -> row[1] == d).count();
    }

    long log(int ago, int what) {
        element(what, 3);
        return ago < 0 ? NONE : w.log.stream().skip(ago).findFirst().orElse(new int[] {NONE, NONE, NONE, NONE})[what];
    }

    long seed(int n) {
        int was = w.seed;
        w.seed = n;
        return was;
    }

    long undo() {
        if (acts.isEmpty()) {
            return 0;
        }
        w = acts.removeLast();
        return 1;
    }

    long image() {
        image = w.copy();
        return 0;
    }

    long back() {
        if (image == null) {
            return 0;
        }
        w = image.copy();
        acts.clear();
        return 1;
    }

    long count(int what) {
        int[] answers = {w.people.size(), w.duties.size(), w.texts, w.law == null ? NONE : w.law.size(), w.day, w.month, w.ill, w.pace, w.price,
            w.bits(w::waits), w.bits(d -> w.duties.get(d).state == 1), w.bits(w::ready), w.shameOfAll(), w.log.size(), acts.size()};
        return what < 0 || what > 14 ? NONE : answers[what];
    }
}
