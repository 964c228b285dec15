/** Promises 9 to 16: the acts, days among them. */
public final class ActTest {
    private static final String STREET = ShowTest.STREET;

    public static void main(String[] args) {
        calling();
        putting();
        forgetting();
        recalling();
        handing();
        leaning();
        freeing();
        days();
        months();
        tools();
        illness();
        Check.close("ActTest", 9, 10, 11, 12, 13, 14, 15, 16);
    }

    private static void calling() {
        Check.promise(9);
        PutOffParade x = Told.of(STREET);
        Check.state("it is not READY", () -> x.call(1));
        Check.state("it is forgotten", () -> x.call(5));
        Check.index("call(6)", () -> x.call(6));
        Check.index("call(-1)", () -> x.call(-1));
        Check.due("no act", 0, x.count(14));
        Check.due("LEFT is PASSES", 6, x.call(0));
        Check.due("done", 1, x.duty(0, 5));
        Check.due("nothing LEFT", 0, x.duty(0, 1));
        Check.due("AGE stays", 2, x.duty(0, 2));
        Check.state("it is done", () -> x.call(0));
        Check.due("PASSES that it had", 6, x.call(1));
        Check.state("LEFT 4 is above PASSES 3", () -> x.call(2));
        Check.due("two acts", 2, x.count(14));
        PutOffParade y = Told.of("pace 1;person at 0 free 0;duty of 0 takes 2;duty of 0 takes 1 age 1;duty of 0 takes 2 age 1");
        Check.state("LEFT 2 is above PASSES 1", () -> y.call(0));
        Check.due("PASSES by like ones", 3, y.call(1));
        Check.due("PASSES by one fewer", 2, y.call(2));
    }

    private static void putting() {
        Check.promise(10);
        PutOffParade x = Told.of(STREET);
        Check.due("AGE then", 6, x.put(1));
        Check.due("AGE", 6, x.duty(1, 2));
        Check.due("LEFT stays", 3, x.duty(1, 1));
        Check.state("it is forgotten", () -> x.put(5));
        x.call(0);
        Check.state("it is done", () -> x.put(0));
        Check.index("put(6)", () -> x.put(6));
        Check.index("put(-1)", () -> x.put(-1));
        Check.due("two acts", 2, x.count(14));
        PutOffParade y = Told.of("person at 0 free 0;duty of 0 takes 1 age 98;duty of 0 takes 1");
        Check.due("AGE 99", 99, y.put(0));
        Check.due("99 at most", 99, y.put(0));
        Check.due("AGE of the other one", 0, y.duty(1, 2));
        Check.due("an act that changes nothing", 2, y.count(14));
    }

    private static void forgetting() {
        Check.promise(11);
        PutOffParade x = Told.of(STREET);
        Check.due("LEFT of it", 3, x.forget(1));
        Check.due("forgotten", 2, x.duty(1, 5));
        Check.due("LEFT stays", 3, x.duty(1, 1));
        Check.due("AGE stays", 5, x.duty(1, 2));
        Check.state("it is forgotten", () -> x.forget(1));
        Check.state("it was forgotten", () -> x.forget(5));
        x.call(0);
        Check.state("it is done", () -> x.forget(0));
        Check.index("forget(6)", () -> x.forget(6));
        Check.index("forget(-1)", () -> x.forget(-1));
        Check.due("two acts", 2, x.count(14));
        Check.due("not waiting", 28, x.count(9));
    }

    private static void recalling() {
        Check.promise(12);
        PutOffParade x = Told.of(STREET);
        Check.state("it is waiting", () -> x.recall(1));
        x.days(2);
        Check.due("AGE of it", 1, x.recall(5));
        Check.due("waiting", 0, x.duty(5, 5));
        Check.due("LEFT", 9, x.duty(5, 1));
        Check.state("it is waiting again", () -> x.recall(5));
        Check.state("it is done", () -> x.recall(0));
        Check.index("recall(6)", () -> x.recall(6));
        Check.index("recall(-1)", () -> x.recall(-1));
        Check.due("two acts", 2, x.count(14));
    }

    private static void handing() {
        Check.promise(13);
        PutOffParade x = Told.of(STREET);
        Check.due("whose it was", 0, x.hand(0, 2));
        Check.due("whose it is", 2, x.duty(0, 0));
        Check.due("whose it was then", 2, x.hand(0, 1));
        Check.due("a forgotten one", 0, x.hand(5, 1));
        Check.argument("it is that one's", () -> x.hand(5, 1));
        x.call(4);
        Check.state("it is done", () -> x.hand(4, 1));
        Check.argument("done, and that one's", () -> x.hand(4, 2));
        Check.index("hand(6, 0)", () -> x.hand(6, 0));
        Check.index("hand(-1, 0)", () -> x.hand(-1, 0));
        Check.index("hand(0, 3)", () -> x.hand(0, 3));
        Check.index("hand(0, -1)", () -> x.hand(0, -1));
        Check.index("hand(4, 3) of a done one", () -> x.hand(4, 3));
        Check.due("four acts", 4, x.count(14));
        Check.due("OWNED", 45, x.person(1, 2));
    }

    private static void leaning() {
        Check.sentence(14, "Told to LEAN on another one, or on none (NONE): on which it did; NONE");
        PutOffParade x = Told.of(STREET);
        Check.due("on none", -1, x.lean(0, 4));
        Check.due("told", 4, x.duty(0, 4));
        Check.due("not READY", 0, x.duty(0, 6));
        Check.due("on which it did", 4, x.lean(0, 5));
        Check.due("on a forgotten one", 5, x.lean(0, -1));
        Check.due("on none again", -1, x.duty(0, 4));
        Check.due("changes nothing", -1, x.lean(0, -1));
        Check.due("is an act all the same", 4, x.count(14));
        Check.argument("both are one", () -> x.lean(0, 0));
        Check.index("lean(6, 0)", () -> x.lean(6, 0));
        Check.index("lean(-1, 0)", () -> x.lean(-1, 0));
        Check.index("lean(0, 6)", () -> x.lean(0, 6));
        Check.index("lean(0, -2)", () -> x.lean(0, -2));
        Check.index("index first", () -> x.lean(6, 6));
        Check.index("none leans on none", () -> x.lean(-1, -1));
        Check.due("a forgotten one leans", -1, x.lean(5, 3));
        x.call(4);
        Check.due("a done one leans", -1, x.lean(4, 3));
        Check.due("still done", 1, x.duty(4, 5));
        Check.due("round a ring", -1, x.lean(2, 3));
        Check.due("RING", 12, x.ring());
    }

    private static void freeing() {
        Check.promise(15);
        PutOffParade x = Told.of(STREET);
        Check.due("what it was", 4, x.free(0, 9));
        Check.due("what it is", 9, x.person(0, 1));
        Check.due("to 0", 9, x.free(0, 0));
        Check.due("as it is", 0, x.free(0, 0));
        Check.due("acts", 3, x.count(14));
        Check.argument("free(0, 10)", () -> x.free(0, 10));
        Check.argument("free(0, -1)", () -> x.free(0, -1));
        Check.index("free(3, 1)", () -> x.free(3, 1));
        Check.index("free(-1, 1)", () -> x.free(-1, 1));
        Check.index("index first", () -> x.free(3, 10));
        Check.due("no more acts", 3, x.count(14));
    }

    private static void days() {
        Check.promise(16);
        PutOffParade x = Told.of(STREET);
        Check.argument("days(0)", () -> x.days(0));
        Check.argument("days(91)", () -> x.days(91));
        Check.argument("days(-1)", () -> x.days(-1));
        Check.due("none is done on day 29", 0, x.days(1));
        left("day 30", x, 2, 3, 2, 1, 2, 9);
        Check.due("one is done on day 30", 1, x.days(1));
        left("day 1", x, 0, 1, 2, 1, 2, 9);
        Check.due("DAY", 1, x.count(4));
        Check.due("MONTH", 8, x.count(5));
        int[] ages = {2, 6, 3, 9, 14, 1};
        for (int d = 0; d < ages.length; d++) {
            Check.due("AGE of " + d, ages[d], x.duty(d, 2));
        }
        Check.due("no row yet", 0, x.count(13));
        Check.due("one is done on day 1", 1, x.days(1));
        left("day 2", x, 0, 0, 2, 1, 2, 9);
        Check.due("rows of three", 3, x.count(13));
        Check.due("two are done in two days more", 2, x.days(2));
        left("day 4", x, 0, 0, 0, 0, 2, 9);
        Check.due("nothing in 90 days", 0, x.days(90));
        Check.due("DAY", 4, x.count(4));
        Check.due("MONTH", 11, x.count(5));
        Check.due("AGE of the waiting one", 17, x.duty(4, 2));
        Check.due("AGE of the forgotten one", 4, x.duty(5, 2));
        Check.due("AGE of a done one", 2, x.duty(0, 2));
        Check.due("acts", 5, x.count(14));
        PutOffParade y = Told.of(STREET);
        Check.due("in one call", 4, y.days(90));
        PutOffParade z = Told.of("person at 0 free 9;duty of 0 takes 3;duty of 0 takes 2 on 0;duty of 0 takes 4 on 1;duty of 0 takes 1 on 2");
        Check.due("READY as it is then", 3, z.days(1));
        Check.due("no hour is left over for the next", 1, z.duty(3, 1));
        PutOffParade w = Told.of("person at 0 free 9;duty of 0 takes 1;duty of 0 takes 1;duty of 0 takes 1");
        w.lean(0, 1);
        Check.due("it goes once through them", 2, w.days(1));
        Check.due("the first one is still waiting", 6, w.count(10));
    }

    private static void left(String when, PutOffParade x, int... due) {
        for (int d = 0; d < due.length; d++) {
            Check.due("LEFT of " + d + " on " + when, due[d], x.duty(d, 1));
        }
    }

    private static void months() {
        Check.promise(16);
        PutOffParade x = Told.of("person at 0 free 0;person at 1 free 0;duty of 0 takes 90 age 98;duty of 0 takes 10 age 11;"
            + "duty of 1 takes 20;duty of 1 takes 30;forgotten 3;day 30;month 999",
            "grow 5 if age < 12 and left < 99;grow 20 if old;grow 1 if day < 2;grow 50 if day > 28;grow 2 if left > 10");
        x.days(1);
        left("day 1", x, 99, 16, 28, 30);
        Check.due("99 months at most", 99, x.duty(0, 2));
        Check.due("MONTH is above what a text tells", 1000, x.count(5));
        x.days(30);
        left("a month later", x, 99, 39, 36, 30);
        Check.due("99 months at most", 99, x.duty(0, 2));
        Check.due("AGE", 13, x.duty(1, 2));
        Check.due("AGE of a forgotten one", 2, x.duty(3, 2));
        PutOffParade y = Told.of("person at 0 free 1;month 999;day 30");
        for (int i = 0; i < 501; i++) {
            y.days(90);
        }
        Check.due("MONTH after 501 times three", 2502, y.count(5));
        PutOffParade z = Told.of("person at 0 free 3;duty of 0 takes 3;duty of 0 takes 7;day 30", "grow 9");
        Check.due("done ahead of the month", 1, z.days(1));
        left("day 1", z, 0, 16);
        Check.due("AGE of the done one", 0, z.duty(0, 2));
    }

    private static void tools() {
        Check.promise(16);
        PutOffParade x = Told.of("person at 0 free 2;person at 0 free 9;person at 0 free 9;duty of 0 takes 2 tool 0;duty of 0 takes 5 tool 1;"
            + "duty of 1 takes 5 tool 0;duty of 1 takes 5 tool 1;duty of 2 takes 5 tool 1;duty of 2 takes 1 tool 0;duty of 2 takes 3;"
            + "duty of 1 takes 9 tool 1");
        x.days(1);
        left("the first day", x, 0, 5, 5, 0, 5, 1, 0, 5);
        x.days(1);
        left("the second day", x, 0, 3, 0, 0, 5, 1, 0, 5);
        x.days(1);
        left("the third day", x, 0, 1, 0, 0, 5, 0, 0, 5);
        x.days(2);
        left("the fifth day", x, 0, 0, 0, 0, 5, 0, 0, 0);
        x.days(1);
        left("the sixth day", x, 0, 0, 0, 0, 0, 0, 0, 0);
        PutOffParade y = Told.of("person at 0 free 0;person at 0 free 3;duty of 0 takes 2 tool 5;duty of 1 takes 2 tool 5;duty of 1 takes 1 tool 5 on 0");
        Check.due("who works no hour has no tool", 1, y.days(1));
        left("the first day", y, 2, 0, 1);
    }

    /** The draws as the document tells them. */
    private static void illness() {
        Check.promise(16);
        PutOffParade x = Told.of("person at 0 free 1;person at 0 free 2;person at 0 free 3;duty of 0 takes 99;duty of 1 takes 99;"
            + "duty of 2 takes 99;ill 40;day 3");
        int seed = 1;
        int[] left = {99, 99, 99};
        for (int day = 0; day < 25; day++) {
            for (int p = 0; p < 3; p++) {
                seed = seed * 1103515245 + 12345;
                int draw = (seed >> 16) & 0x7fff;
                if (draw % 100 >= 40) {
                    left[p] -= p + 1;
                }
            }
            x.days(1);
            left("draw day " + day, x, left);
        }
        Check.due("some were ill", true, left[2] > 24 && left[2] < 99);
        Check.due("SEED", seed, x.seed(5));
        PutOffParade y = Told.of("person at 0 free 5;duty of 0 takes 5;ill 100");
        Check.due("always ill", 0, y.days(90));
        Check.due("a draw for each", true, y.seed(1) != 1);
        PutOffParade z = Told.of("person at 0 free 5;person at 0 free 0;duty of 0 takes 5");
        Check.due("never ill", 1, z.days(1));
        Check.due("draws though nobody can be ill", (1103515245 + 12345) * 1103515245 + 12345, z.seed(1));
        PutOffParade w = new PutOffParade();
        w.days(9);
        Check.due("no draws without people", 1, w.seed(1));
    }
}
