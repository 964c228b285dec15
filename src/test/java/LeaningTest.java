/** Promises 24 to 31: what leans on what, how soon, and how old. */
public final class LeaningTest {
    private static final String STREET = ShowTest.STREET;
    /** 0 on none, 1 on 0, 2 on 1, 3 on 2, 4 on 1, 5 on none. */
    private static final String CHAIN = "person at 0 free 0;pace 9;duty of 0 takes 1 age 1;duty of 0 takes 2 age 10 on 0;"
        + "duty of 0 takes 4 age 20 on 1;duty of 0 takes 8 age 30 on 2;duty of 0 takes 16 age 40 on 1;duty of 0 takes 32 age 98";

    public static void main(String[] args) {
        soon();
        longest();
        rings();
        before();
        after();
        depth();
        young();
        older();
        Check.close("LeaningTest", 24, 25, 26, 27, 28, 29, 30, 31);
    }

    private static void soons(String when, PutOffParade x, int... due) {
        for (int d = 0; d < due.length; d++) {
            Check.due("soon(" + d + ") " + when, due[d], x.soon(d));
        }
    }

    private static void soon() {
        Check.promise(24);
        soons("of the shared street", Told.of(STREET), 6, 9, 4, 5, 2, 0);
        PutOffParade x = Told.of(CHAIN);
        soons("at first", x, 1, 3, 7, 15, 19, 32);
        x.lean(5, 3);
        soons("by a longer chain", x, 1, 3, 7, 15, 19, 47);
        x.call(0);
        soons("with the first one done", x, 0, 2, 6, 14, 18, 46);
        x.forget(2);
        soons("with one forgotten", x, 0, 2, 0, -1, 18, -1);
        x.recall(2);
        x.lean(1, 3);
        soons("round a ring, and onto a ring", x, 0, -1, -1, -1, -1, -1);
        x.lean(1, -1);
        x.lean(0, 5);
        soons("a done one that leans itself", x, 0, 2, 6, 14, 18, 46);
        x.lean(1, 0);
        soons("hours of what a done one leans on", x, 0, -1, -1, -1, -1, -1);
        x.lean(5, -1);
        soons("hours of what a done one leans on", x, 0, 34, 38, 46, 50, 32);
        Check.index("soon(6)", () -> x.soon(6));
        Check.index("soon(-1)", () -> x.soon(-1));
    }

    private static void longest() {
        Check.promise(25);
        Check.due("of the shared street", 9, Told.of(STREET).longest());
        PutOffParade x = Told.of(CHAIN);
        Check.due("of the chain", 32, x.longest());
        x.forget(5);
        Check.due("without the forgotten one", 19, x.longest());
        x.lean(4, 5);
        Check.due("not of what leans on it", 15, x.longest());
        x.lean(0, 3);
        Check.due("none has one", 0, x.longest());
        Check.due("of the first one alone", 9, Told.of("person at 0 free 0;duty of 0 takes 9;duty of 0 takes 3").longest());
    }

    private static void rings() {
        Check.promise(26);
        PutOffParade x = Told.of(CHAIN);
        Check.due("none", 0, x.ring());
        x.lean(0, 3);
        Check.due("4 leans on the ring, but is none of it", 15, x.ring());
        x.lean(5, 4);
        x.lean(1, 5);
        Check.due("1, 5 and 4", 50, x.ring());
        x.lean(0, 2);
        x.lean(2, 0);
        Check.due("two rings", 55, x.ring());
        x.forget(2);
        Check.due("also of a forgotten one", 55, x.ring());
    }

    private static void bits(String name, int[] due, int[] got) {
        for (int d = 0; d < due.length; d++) {
            Check.due(name + "(" + d + ")", due[d], got[d]);
        }
    }

    private static void before() {
        Check.promise(27);
        PutOffParade x = Told.of(CHAIN);
        bits("before", new int[] {0, 1, 3, 7, 3, 0}, befores(x));
        x.call(0);
        x.forget(1);
        bits("before, done and forgotten ones too", new int[] {0, 1, 3, 7, 3, 0}, befores(x));
        x.lean(1, 3);
        bits("before in a ring", new int[] {0, 14, 14, 14, 14, 0}, befores(x));
        Check.index("before(6)", () -> x.before(6));
        Check.index("before(-1)", () -> x.before(-1));
    }

    private static int[] befores(PutOffParade x) {
        int[] got = new int[6];
        for (int d = 0; d < got.length; d++) {
            got[d] = x.before(d);
        }
        return got;
    }

    private static void after() {
        Check.promise(28);
        PutOffParade x = Told.of(CHAIN);
        bits("after", new int[] {30, 28, 8, 0, 0, 0}, afters(x));
        x.lean(1, 3);
        bits("after in a ring", new int[] {0, 30, 30, 30, 0, 0}, afters(x));
        x.lean(0, 5);
        Check.due("the first one too", 1, x.after(5));
        Check.index("after(6)", () -> x.after(6));
        Check.index("after(-1)", () -> x.after(-1));
    }

    private static int[] afters(PutOffParade x) {
        int[] got = new int[6];
        for (int d = 0; d < got.length; d++) {
            got[d] = x.after(d);
        }
        return got;
    }

    private static void depth() {
        Check.promise(29);
        PutOffParade x = Told.of(CHAIN);
        int[] due = {0, 1, 2, 3, 2, 0};
        for (int d = 0; d < due.length; d++) {
            Check.due("depth(" + d + ")", due[d], x.depth(d));
        }
        x.call(0);
        x.forget(1);
        int[] then = {0, 0, 1, 2, 1, 0};
        for (int d = 0; d < then.length; d++) {
            Check.due("without the done one, depth(" + d + ")", then[d], x.depth(d));
        }
        x.lean(1, 3);
        Check.due("itself too in a ring", 3, x.depth(2));
        Check.due("onto a ring", 3, x.depth(4));
        Check.index("depth(6)", () -> x.depth(6));
        Check.index("depth(-1)", () -> x.depth(-1));
    }

    private static void young() {
        Check.promise(30);
        PutOffParade s = Told.of(STREET);
        Check.due("young(4) of the shared street", 16, s.young(4));
        Check.due("young(12) of the shared street", 2, s.young(12));
        Check.due("young(13) of the shared street", 0, s.young(13));
        Check.due("young(7) of the shared street", 7, s.young(7));
        PutOffParade x = Told.of(CHAIN);
        int[][] due = {{98, 0}, {97, 32}, {40, 32}, {39, 51}, {30, 51}, {29, 63}, {20, 63}, {10, 63}, {0, 63}};
        for (int[] row : due) {
            Check.due("young(" + row[0] + ")", row[1], x.young(row[0]));
        }
        PutOffParade y = Told.of("person at 0 free 0;duty of 0 takes 9 age 9;duty of 0 takes 3");
        y.lean(0, 1);
        Check.due("what the first one LEANS on", 12, y.young(8));
        Check.due("nothing older", 0, y.young(9));
        x.call(0);
        Check.due("without the done one", 50, x.young(39));
        x.forget(3);
        Check.due("a forgotten one that nobody leans on", 54, x.young(9));
        x.forget(1);
        Check.due("none, as they lean on a forgotten one", -1, x.young(39));
        Check.due("but the oldest one does not", 32, x.young(40));
        x.recall(1);
        x.lean(1, 2);
        Check.due("none in a ring", -1, x.young(19));
        Check.due("none onto a ring", -1, x.young(39));
        Check.due("apart from it", 32, x.young(40));
        Check.argument("young(99)", () -> x.young(99));
        Check.argument("young(-1)", () -> x.young(-1));
    }

    private static void older() {
        Check.promise(31);
        PutOffParade x = Told.of(CHAIN);
        int[][] due = {{0, 6}, {1, 5}, {9, 5}, {10, 4}, {40, 1}, {97, 1}, {98, 0}, {99, 0}};
        for (int[] row : due) {
            Check.due("older(" + row[0] + ")", row[1], x.older(row[0]));
        }
        x.forget(5);
        x.call(0);
        Check.due("waiting ones alone", 4, x.older(0));
        Check.argument("older(100)", () -> x.older(100));
        Check.argument("older(-1)", () -> x.older(-1));
    }
}
