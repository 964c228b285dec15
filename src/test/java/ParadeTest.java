/** Promises 17 to 23: the parade now, the pavement, and what to do in so many hours. */
public final class ParadeTest {
    private static final String STREET = ShowTest.STREET;

    public static void main(String[] args) {
        order();
        canBeDone();
        greeting();
        whereabouts();
        crowds();
        called();
        doing();
        Check.close("ParadeTest", 17, 18, 19, 20, 21, 22, 23);
    }

    private static void order() {
        Check.promise(17);
        PutOffParade x = Told.of(STREET);
        int[] due = {0, 2, 1, 3, 4};
        for (int k = 0; k < due.length; k++) {
            Check.due("parade(" + k + ")", due[k], x.parade(k));
        }
        for (int k : new int[] {5, 6, 12, 99, -1, -12, Integer.MAX_VALUE, Integer.MIN_VALUE}) {
            Check.due("parade(" + k + ")", -1, x.parade(k));
        }
        x.recall(5);
        x.put(0);
        x.call(4);
        int[] then = {5, 2, 0, 1, 3, -1};
        for (int k = 0; k < then.length; k++) {
            Check.due("parade(" + k + ") then", then[k], x.parade(k));
        }
    }

    private static void canBeDone() {
        Check.promise(18);
        PutOffParade x = Told.of(STREET);
        Check.due("can()", 21, x.can());
        x.call(4);
        Check.due("without the done one", 5, x.can());
        x.call(0);
        Check.due("one is READY by it, and 2 is passed by too fast", 2, x.can());
        Told.street(x, "pace 4");
        Check.due("LEFT 4 in 4 hours", 6, x.can());
        x.forget(2);
        Check.due("without the forgotten one", 2, x.can());
    }

    private static void greeting() {
        Check.promise(19);
        PutOffParade x = Told.of(STREET);
        int[][] due = {{0, 0, 0}, {0, 3, 9}, {0, 15, 45}, {1, 0, 6}, {1, 2, 12}, {2, 0, 3}, {4, 0, 12}, {4, 15, 57}, {5, 0, -1}, {5, 15, -1}};
        for (int[] row : due) {
            Check.due("greets(" + row[0] + ", " + row[1] + ")", row[2], x.greets(row[0], row[1]));
        }
        Check.index("greets(0, 16)", () -> x.greets(0, 16));
        Check.index("greets(0, -1)", () -> x.greets(0, -1));
        Check.index("greets(6, 0)", () -> x.greets(6, 0));
        Check.index("greets(-1, 0)", () -> x.greets(-1, 0));
        Check.index("greets(5, 16) of a forgotten one", () -> x.greets(5, 16));
        x.call(0);
        Check.due("of a done one", -1, x.greets(0, 0));
        Check.due("the next one is the first", 0, x.greets(2, 0));
    }

    private static void whereabouts() {
        Check.promise(20);
        PutOffParade x = Told.of(STREET);
        int[][] due = {
            {0, 0, 0}, {0, 2, 0}, {0, 3, 1}, {0, 47, 15}, {0, 48, 16}, {0, 300, 16}, {2, 0, -1}, {2, 2, -1}, {2, 3, 0}, {2, 50, 15}, {2, 51, 16},
            {4, 11, -1}, {4, 12, 0}, {4, 59, 15}, {4, 60, 16}, {5, 0, -1}, {5, 9, -1}, {5, 300, -1}, {1, 0, -1}, {1, 10, 1}, {3, 30, 7},
        };
        for (int[] row : due) {
            Check.due("where(" + row[0] + ", " + row[1] + ")", row[2], x.where(row[0], row[1]));
        }
        PutOffParade y = Told.of("person at 0 free 0;pace 1;duty of 0 takes 1;duty of 0 takes 1");
        Check.due("by PACE 1", 6, y.where(1, 7));
        Check.due("by PACE 1, beyond 15", 16, y.where(0, 16));
        Check.due("by PACE 2 at first", 2, Told.of("person at 0 free 0;duty of 0 takes 1;duty of 0 takes 1").where(1, 7));
        Check.argument("where(0, 301)", () -> x.where(0, 301));
        Check.argument("where(0, -1)", () -> x.where(0, -1));
        Check.argument("where(5, 301) of a forgotten one", () -> x.where(5, 301));
        Check.index("where(6, 0)", () -> x.where(6, 0));
        Check.index("where(-1, 0)", () -> x.where(-1, 0));
        Check.index("index first", () -> x.where(6, 301));
    }

    private static void crowds() {
        Check.promise(21);
        PutOffParade x = Told.of(STREET);
        int[][] due = {
            {0, 15, 9, 4}, {3, 3, 9, 1}, {0, 15, 0, 1}, {0, 0, 0, 1}, {1, 15, 0, 0}, {0, 15, 300, 0}, {0, 15, 12, 5}, {0, 15, 48, 4}, {15, 15, 50, 1},
            {0, 1, 9, 2}, {1, 2, 9, 2}, {2, 3, 9, 2}, {0, 15, 60, 0}, {15, 15, 59, 1},
        };
        for (int[] row : due) {
            Check.due("crowd(" + row[0] + ", " + row[1] + ", " + row[2] + ")", row[3], x.crowd(row[0], row[1], row[2]));
        }
        Check.argument("the first is above the second", () -> x.crowd(4, 3, 9));
        Check.argument("crowd(0, 0, 301)", () -> x.crowd(0, 0, 301));
        Check.argument("crowd(0, 0, -1)", () -> x.crowd(0, 0, -1));
        Check.index("crowd(-1, 0, 0)", () -> x.crowd(-1, 0, 0));
        Check.index("crowd(0, 16, 0)", () -> x.crowd(0, 16, 0));
        Check.index("crowd(16, 0, 301)", () -> x.crowd(16, 0, 301));
        Check.index("crowd(0, -1, 301)", () -> x.crowd(0, -1, 301));
    }

    private static void called() {
        Check.promise(22);
        PutOffParade x = Told.of(STREET);
        Check.due("most()", 17, x.most());
        String people = "person at 0 free 0;person at 0 free 0;person at 0 free 0;person at 0 free 0;pace 9;";
        Check.due("of one person only one", 1, Told.of(people + "duty of 0 takes 1;duty of 0 takes 1;duty of 0 takes 1").most());
        Check.due("of neighbours only one", 5, Told.of(people + "duty of 0 takes 1;duty of 1 takes 1;duty of 2 takes 1").most());
        Check.due("neighbours by PLACE, not by number", 3,
            Told.of(people + "duty of 0 takes 1;duty of 1 takes 1 age 2;duty of 2 takes 1 age 1").most());
        Check.due("the least as bits", 5,
            Told.of(people + "duty of 0 takes 1;duty of 1 takes 1;duty of 2 takes 1;duty of 3 takes 1").most());
        Check.due("more is better than less as bits", 21,
            Told.of(people + "duty of 0 takes 1;duty of 1 takes 1;duty of 2 takes 1;duty of 1 takes 1;duty of 3 takes 1").most());
        Check.due("one who passes between parts them", 5,
            Told.of(people + "duty of 0 takes 1;duty of 1 takes 99;duty of 2 takes 1").most());
        Check.due("those at PLACES 1 and 3", 10,
            Told.of(people + "duty of 0 takes 99;duty of 1 takes 1;duty of 2 takes 99;duty of 3 takes 1").most());
        PutOffParade y = Told.of(people + "duty of 0 takes 1;duty of 1 takes 1;duty of 2 takes 1 age 1");
        Check.due("first and last", 5, y.most());
        y.put(0);
        y.put(0);
        Check.due("the first one is the last one then", 3, y.most());
        Check.due("none of CAN", 0, Told.of(people + "duty of 0 takes 99;duty of 1 takes 99").most());
        Check.due("a forgotten one is none of PLACES", 10,
            Told.of(people + "duty of 0 takes 1;duty of 1 takes 1;duty of 0 takes 1;duty of 2 takes 1;forgotten 0").most());
    }

    private static void doing() {
        Check.promise(23);
        PutOffParade x = Told.of(STREET);
        int[][] due = {{0, 0, 30}, {1, 0, 30}, {2, 16, 17}, {5, 16, 17}, {6, 20, 15}, {7, 28, 7}, {8, 28, 7}, {9, 28, 7}, {11, 28, 7}, {13, 29, 5}, {15, 29, 5},
            {16, 31, 0}, {99, 31, 0}};
        for (int[] row : due) {
            Check.due("does(" + row[0] + ", false)", row[1], x.does(row[0], false));
            Check.due("does(" + row[0] + ", true)", row[2], x.does(row[0], true));
        }
        Check.argument("does(100, false)", () -> x.does(100, false));
        Check.argument("does(100, true)", () -> x.does(100, true));
        Check.argument("does(-1, false)", () -> x.does(-1, false));
        PutOffParade y = Told.of("person at 0 free 0;duty of 0 takes 5 age 3;duty of 0 takes 5 age 3;duty of 0 takes 1;duty of 0 takes 2 age 9 on 1");
        Check.due("of several the least", 1, y.does(5, false));
        Check.due("0 shame adds nothing", 1, y.does(6, false));
        Check.due("it leans on one of the set", 10, y.does(7, false));
        Check.due("the others shame", 3, y.does(7, true));
        y.lean(1, 3);
        Check.due("a ring of the set", 10, y.does(7, false));
        Check.due("not a part of a ring", 1, y.does(6, false));
        y.forget(1);
        Check.due("none on a forgotten one", 1, y.does(99, false));
        Check.due("the others shame", 9, y.does(99, true));
        Told.law(y, "shame 40 if duty > 1 and duty < 3;ease 60 if left > 4");
        Check.due("by the law", 4, y.does(6, false));
        Check.due("by the law", 9, y.does(6, true));
        PutOffParade z = Told.of("person at 0 free 0;duty of 0 takes 1 age 1;duty of 0 takes 9");
        Check.due("SHAME 1 is better done", 1, z.does(1, false));
        z.lean(0, 1);
        Check.due("the first one LEANS on one that is not of the set", 0, z.does(1, false));
        Check.due("with it", 3, z.does(10, false));
        Check.due("of no SHAME at all none is done", 0, Told.of("person at 0 free 0;duty of 0 takes 1").does(99, false));
        y.call(2);
        Check.due("a done one is none of the set", 0, y.does(99, false));
    }
}
