import java.util.ArrayList;
import java.util.List;
import java.util.Random;
import java.util.TreeMap;

/** Runs of drawn calls (the same ones each time) on an object and on the Model: all answers are alike. */
public final class RandomTest {
    /** The document tells of 512 calls on an object; the longest step, a text, takes 23. */
    private static final int CALLS = 512 - 23;

    private final Random random;
    private final PutOffParade x = new PutOffParade();
    private final Model model = new Model();
    private final List<String> told = new ArrayList<>();
    private int calls;
    private static final TreeMap<String, int[]> answers = new TreeMap<>();

    private RandomTest(long seed) {
        random = new Random(seed);
    }

    public static void main(String[] args) {
        int runs = args.length > 0 ? Integer.parseInt(args[0]) : 1500;
        int first = args.length > 1 ? Integer.parseInt(args[1]) : 0;
        Check.promise(1);
        for (int seed = first; seed < first + runs; seed++) {
            Check.due("run " + seed, true, new RandomTest(seed).run());
        }
        if (args.length > 0) {
            answers.forEach((name, n) -> System.out.println(name + ": " + n[0] + " answers, " + n[1] + " exceptions, " + n[2] + " NONE"));
        }
        Check.close("RandomTest", 1);
    }

    private int below(int n) {
        return random.nextInt(n);
    }

    private boolean run() {
        if (below(10) > 0) {
            text(beginning());
            if (!same("street()", x::street, model::street)) {
                return false;
            }
        }
        while (calls < CALLS) {
            if (!step()) {
                told.subList(Math.max(0, told.size() - 40), told.size()).forEach(System.out::println);
                return false;
            }
        }
        return true;
    }

    private boolean same(String name, Check.Call ours, Check.Call theirs) {
        calls++;
        String got = answer(ours);
        String want = answer(theirs);
        told.add(name + " = " + got + (got.equals(want) ? "" : ", due is " + want));
        int[] n = answers.computeIfAbsent(name.substring(0, name.indexOf('(')), k -> new int[3]);
        n[got.startsWith("java") ? 1 : got.equals("-1") ? 2 : 0]++;
        return got.equals(want);
    }

    private static String answer(Check.Call call) {
        try {
            return Long.toString(call.answer());
        } catch (RuntimeException e) {
            return e.getClass().getName();
        }
    }

    private static int one(boolean b) {
        return b ? 1 : 0;
    }

    // ---- arguments: mostly right, sometimes at an edge, sometimes wild ----

    private int number(int low, int high) {
        switch (below(30)) {
            case 0: return low - 1;
            case 1: return high + 1;
            case 2: return low;
            case 3: return high;
            case 4: return below(10) == 0 ? random.nextInt() : low;
            default: return high < low ? low : low + below(high - low + 1);
        }
    }

    private int duty() {
        return number(0, model.w.duties.size() - 1);
    }

    private int person() {
        return number(0, model.w.people.size() - 1);
    }

    // ---- texts ----

    private void text(String text) {
        told.add("text \"" + text + "\"");
        int[] bytes = new int[Math.min(400, text.length())];
        for (int i = 0; i < bytes.length; i++) {
            bytes[i] = text.charAt(i);
        }
        tape(bytes);
    }

    private void tape(int... bytes) {
        calls += 2 + (bytes.length + 19) / 20;
        Told.bytes(x, bytes);
        model.tape = new byte[bytes.length];
        for (int i = 0; i < bytes.length; i++) {
            model.tape[i] = (byte) bytes[i];
        }
    }

    private String beginning() {
        StringBuilder s = new StringBuilder();
        int people = 1 + below(4);
        int duties = 1 + below(14 - people);
        for (int p = 0; p < people; p++) {
            s.append("person at ").append(below(16)).append(" free ").append(below(4)).append(';');
        }
        boolean young = below(2) == 0;
        for (int d = 0; d < Math.min(12, duties) && s.length() < 360; d++) {
            s.append("duty of ").append(below(people)).append(" takes ").append(1 + below(below(3) == 0 ? 60 : 15));
            if (below(3) > 0) {
                s.append(" age ").append(below(young ? 6 : below(4) == 0 ? 100 : 20));
            }
            if (below(3) == 0) {
                s.append(" tool ").append(below(3));
            }
            if (d > 0 && below(3) == 0) {
                s.append(" on ").append(below(d));
            }
            s.append(';');
        }
        s.setLength(s.length() - 1);
        return s.toString();
    }

    private String blank() {
        return below(8) == 0 ? "  " : below(8) == 0 ? "" : " ";
    }

    private int wide(int low, int high) {
        return below(40) == 0 ? high + 1 : below(40) == 0 ? low - 1 : low + below(high - low + 1);
    }

    private String streetLine() {
        int people = model.w.people.size();
        int duties = model.w.duties.size();
        switch (below(8)) {
            case 0: return "person" + " at " + wide(0, 15) + blank() + "free" + blank() + wide(0, 9);
            case 1: case 2:
                return "duty of " + wide(0, Math.max(0, people - 1)) + " takes" + blank() + wide(1, 99) + (below(2) == 0 ? " age " + wide(0, 99) : "")
                    + (below(2) == 0 ? " tool " + wide(0, 5) : "") + (below(2) == 0 ? " on " + wide(0, Math.max(0, duties)) : "");
            case 3: return "forgotten " + wide(0, Math.max(0, duties - 1));
            case 4: return "ill" + blank() + wide(0, below(2) == 0 ? 100 : 30);
            case 5: return "pace " + wide(1, 9);
            case 6: return "price" + blank() + wide(0, 50);
            default: return below(2) == 0 ? "day " + wide(1, 30) : "month " + wide(0, 999);
        }
    }

    private String lawLine() {
        String word = below(3) == 0 ? "grow" : below(2) == 0 ? "shame" : "ease";
        int n = word.equals("grow") ? below(12) : wide(0, 60);
        return word + blank() + n + (below(3) == 0 ? "" : " if " + any(below(4)));
    }

    private String any(int deep) {
        String s = every(deep);
        while (below(3) == 0) {
            s += " or " + every(deep);
        }
        return s;
    }

    private String every(int deep) {
        String s = atom(deep);
        while (below(3) == 0) {
            s += " and " + atom(deep);
        }
        return s;
    }

    private String atom(int deep) {
        switch (below(deep > 0 ? 7 : 4)) {
            case 0: return "ready";
            case 1: return "old";
            case 2: case 3: return sum() + blank() + (below(2) == 0 ? "<" : ">") + blank() + sum();
            case 4: return "not " + atom(deep - 1);
            default: return "(" + blank() + any(deep - 1) + ")";
        }
    }

    private String sum() {
        String s = part();
        while (below(4) == 0) {
            s += blank() + "+" + blank() + part();
        }
        return s;
    }

    private String part() {
        String[] parts = {"duty", "left", "age", "tool", "owner", "kerb", "day"};
        return below(3) == 0 ? Integer.toString(below(below(9) == 0 ? 1100 : 25)) : parts[below(parts.length)];
    }

    private String lines(boolean street) {
        int n = below(5) == 0 ? below(17) : below(5);
        StringBuilder s = new StringBuilder();
        for (int i = 0; i < n; i++) {
            s.append(i > 0 ? ";" : "").append(below(4) == 0 ? " " : "").append(street ? streetLine() : lawLine());
        }
        String text = s.toString();
        return below(4) == 0 ? changed(text) : text;
    }

    private String changed(String text) {
        StringBuilder s = new StringBuilder(text);
        String signs = " ;()<>+-0123456789abcdefghijklmnopqrstuvwxyz\t\n\u00ff{`:/A";
        String[] words = {"not", "and", "or", "if", "ready", "old", "5", "(", ")", ";", "+", "<", "person", "duty", "grow"};
        for (int i = 0; i <= below(3); i++) {
            int at = below(s.length() + 1);
            switch (below(4)) {
                case 0: s.insert(at, signs.charAt(below(signs.length()))); break;
                case 1: s.insert(at, " " + words[below(words.length)] + " "); break;
                case 2: s.setLength(at); break;
                default: if (at < s.length()) { s.deleteCharAt(at); } break;
            }
        }
        return s.toString();
    }

    private boolean told(boolean whose) {
        int[] bytes = new int[below(12) == 0 ? below(45) : 2 * below(4)];
        for (int i = 0; i + 1 < bytes.length; i += 2) {
            bytes[i] = below(60) == 0 ? below(256) : below(8);
            bytes[i + 1] = below(60) == 0 ? below(256) : bytes[i] + below(10);
        }
        tape(bytes);
        return whose ? same("whose()", x::whose, model::whose) : same("ask()", x::ask, model::ask);
    }

    // ---- the calls ----

    private boolean step() {
        boolean little = model.w.parade().size() < 3;
        if (little && below(6) == 0) {
            return same("back()", () -> one(x.back()), model::back);
        }
        if (!little && below(40) == 0) {
            return same("image()", () -> { x.image(); return 0; }, model::image);
        }
        switch (below(20)) {
            case 0: return text();
            case 1: case 2: case 3: case 4: case 5: return act();
            case 6: case 7: case 8: case 9: return memory();
            case 10: case 11: case 12: return shown();
            case 13: case 14: case 15: return paraded();
            case 16: case 17: return leaned();
            default: return foreseen();
        }
    }

    private boolean text() {
        switch (below(5)) {
            case 0: case 1:
                text(lines(true));
                return same("street()", x::street, model::street) && same("fault()", x::fault, model::fault);
            case 2:
                text(lines(false));
                return same("law()", x::law, model::law) && same("fault()", x::fault, model::fault);
            case 3:
                return told(below(2) == 0);
            default:
                int n = random.nextInt();
                int m = below(45) - 2;
                return same("feed(" + n + ", ..)", () -> x.feed(n, m, n, m, n), () -> model.feed(n, m, n, m, n))
                    && same("end(" + m + ")", () -> one(x.end(m)), () -> model.end(m));
        }
    }

    private boolean act() {
        int d = duty();
        int e = number(-1, model.w.duties.size() - 1);
        int p = person();
        int n = number(0, 9);
        switch (below(9)) {
            case 0: return same("call(" + d + ")", () -> x.call(d), () -> model.call(d));
            case 1: return same("put(" + d + ")", () -> x.put(d), () -> model.put(d));
            case 2: return same("forget(" + d + ")", () -> x.forget(d), () -> model.forget(d));
            case 3: return same("recall(" + d + ")", () -> x.recall(d), () -> model.recall(d));
            case 4: return same("hand(" + d + ", " + p + ")", () -> x.hand(d, p), () -> model.hand(d, p));
            case 5: case 6: return same("lean(" + d + ", " + e + ")", () -> x.lean(d, e), () -> model.lean(d, e));
            case 7: return same("free(" + p + ", " + n + ")", () -> x.free(p, n), () -> model.free(p, n));
            default:
                int days = below(5) > 0 ? number(1, 3) : number(1, 90);
                return same("days(" + days + ")", () -> x.days(days), () -> model.days(days));
        }
    }

    private boolean memory() {
        int d = duty();
        int what = number(0, 3);
        int ago = below(3) == 0 ? number(0, 60) : number(0, 8);
        boolean b = below(2) == 0;
        int n = below(2) == 0 ? below(9) : random.nextInt();
        switch (below(16)) {
            case 0: return below(6) > 0 || same("image()", () -> { x.image(); return 0; }, model::image);
            case 1: return below(3) > 0 || same("back()", () -> one(x.back()), model::back);
            case 2: case 3: return same("undo()", () -> one(x.undo()), model::undo);
            case 4: return same("seed(" + n + ")", () -> x.seed(n), () -> model.seed(n));
            case 5: case 6: return same("led(" + d + ", " + b + ")", () -> x.led(d, b), () -> model.led(d, b));
            case 7: case 8: case 9: return same("log(" + ago + ", " + what + ")", () -> x.log(ago, what), () -> model.log(ago, what));
            default:
                int all = number(0, 14);
                return same("count(" + all + ")", () -> x.count(all), () -> model.count(all));
        }
    }

    private boolean shown() {
        int d = duty();
        int p = person();
        int q = person();
        switch (below(8)) {
            case 0: case 1:
                int a = number(0, 5);
                return same("person(" + p + ", " + a + ")", () -> x.person(p, a), () -> model.person(p, a));
            case 2: case 3: case 4:
                int b = number(0, 10);
                return same("duty(" + d + ", " + b + ")", () -> x.duty(d, b), () -> model.duty(d, b));
            case 5: return same("swap(" + p + ", " + q + ")", () -> x.swap(p, q), () -> model.swap(p, q));
            case 6: return same("rests(" + p + ", " + q + ", " + d + ")", () -> x.rests(p, q, d), () -> model.rests(p, q, d));
            default:
                switch (below(4)) {
                    case 0: return same("sponsor()", x::sponsor, model::sponsor);
                    case 1: return same("idle()", x::idle, model::idle);
                    case 2: return same("worst()", x::worst, model::worst);
                    default: return same("alike()", x::alike, model::alike);
                }
        }
    }

    private boolean paraded() {
        int d = duty();
        int k = number(0, 12);
        int kerb = number(0, 15);
        int to = number(kerb, 15);
        int hour = below(2) == 0 ? number(0, 300) : number(0, 40);
        switch (below(8)) {
            case 0: return same("parade(" + k + ")", () -> x.parade(k), () -> model.parade(k));
            case 1: return same("can()", x::can, model::can);
            case 2: return same("greets(" + d + ", " + kerb + ")", () -> x.greets(d, kerb), () -> model.greets(d, kerb));
            case 3: return same("where(" + d + ", " + hour + ")", () -> x.where(d, hour), () -> model.where(d, hour));
            case 4: return same("crowd(" + kerb + ", " + to + ", " + hour + ")", () -> x.crowd(kerb, to, hour), () -> model.crowd(kerb, to, hour));
            case 5: return same("most()", x::most, model::most);
            default:
                int h = below(2) == 0 ? number(0, 99) : number(0, 30);
                boolean shame = below(2) == 0;
                return same("does(" + h + ", " + shame + ")", () -> x.does(h, shame), () -> model.does(h, shame));
        }
    }

    private boolean leaned() {
        int d = duty();
        int a = below(2) == 0 ? number(0, 99) : number(0, 15);
        switch (below(12)) {
            case 0: case 1: return same("soon(" + d + ")", () -> x.soon(d), () -> model.soon(d));
            case 2: return same("longest()", x::longest, model::longest);
            case 3: return same("ring()", x::ring, model::ring);
            case 4: return same("before(" + d + ")", () -> x.before(d), () -> model.before(d));
            case 5: return same("after(" + d + ")", () -> x.after(d), () -> model.after(d));
            case 6: return same("depth(" + d + ")", () -> x.depth(d), () -> model.depth(d));
            case 7: return same("young(" + a + ")", () -> x.young(a), () -> model.young(a));
            case 8: return same("older(" + a + ")", () -> x.older(a), () -> model.older(a));
            case 9: return same("gap()", x::gap, model::gap);
            case 10: return same("lost()", x::lost, model::lost);
            default: return same("missed()", x::missed, model::missed);
        }
    }

    private boolean foreseen() {
        int d = duty();
        int p = person();
        int n = below(2) == 0 ? number(0, 90) : number(0, 9);
        int what = number(0, 2);
        int h = below(2) == 0 ? number(1, 54) : number(1, 9);
        int k = number(0, 6);
        int m = number(0, 6);
        boolean b = below(2) == 0;
        switch (below(11)) {
            case 0: return same("odds(" + m + ", " + k + ")", () -> x.odds(m, k), () -> model.odds(m, k));
            case 1: return same("spare(" + p + ", " + h + ")", () -> x.spare(p, h), () -> model.spare(p, h));
            case 2: return same("done(" + d + ")", () -> x.done(d), () -> model.done(d));
            case 3: return same("all()", x::all, model::all);
            case 4: return same("help()", x::help, model::help);
            case 5: return same("crux()", x::crux, model::crux);
            case 6: return same("sick(" + p + ")", () -> x.sick(p), () -> model.sick(p));
            case 7: case 8: return same("ahead(" + d + ", " + n + ", " + what + ")", () -> x.ahead(d, n, what), () -> model.ahead(d, n, what));
            case 9: return same("trial(" + n + ", " + b + ")", () -> x.trial(n, b), () -> model.trial(n, b));
            default: return same("span(" + n + ", " + b + ")", () -> x.span(n, b), () -> model.span(n, b));
        }
    }
}
