/** Promises 7, 8 and 59: what there is of a person, of a duty and in all. */
public final class ShowTest {
    /** The street of the shared runs. */
    static final String STREET = "person at 3 free 4;person at 9 free 2;person at 3 free 0;duty of 0 takes 6 age 2;"
        + "duty of 0 takes 3 age 5 tool 1 on 0;duty of 1 takes 4 age 2 tool 1;duty of 1 takes 1 age 8 on 2;"
        + "duty of 2 takes 2 age 13;duty of 0 takes 9;forgotten 5;pace 3;price 4;day 29;month 7";

    public static void main(String[] args) {
        people();
        duties();
        counts();
        Check.close("ShowTest", 7, 8, 59);
    }

    private static void people() {
        Check.promise(7);
        PutOffParade x = Told.of(STREET);
        int[][] due = {{3, 4, 35, 9, 3, 23}, {9, 2, 12, 5, 3, 33}, {3, 0, 16, 2, 1000, 43}};
        for (int p = 0; p < due.length; p++) {
            for (int what = 0; what < due[p].length; what++) {
                Check.due("person(" + p + ", " + what + ")", due[p][what], x.person(p, what));
            }
        }
        Check.index("person(3, 0)", () -> x.person(3, 0));
        Check.index("person(-1, 0)", () -> x.person(-1, 0));
        Check.index("index first", () -> x.person(3, 6));
        Check.element("person(0, 6)", () -> x.person(0, 6));
        Check.element("person(0, -1)", () -> x.person(0, -1));
        Check.element("person(2, 2147483647)", () -> x.person(2, Integer.MAX_VALUE));
        x.call(4);
        Check.due("OWNED has the done too", 16, x.person(2, 2));
        Check.due("LOAD has not", 0, x.person(2, 3));
        Check.due("NEEDS of no LOAD without FREE hours", 0, x.person(2, 4));
        Check.due("SHARE of no waiting one", 0, x.person(2, 5));
        Check.due("SHARE of 7 in 17", 41, x.person(0, 5));
        x.hand(5, 2);
        Check.due("OWNED has the forgotten too", 48, x.person(2, 2));
        Check.due("LOAD has not", 0, x.person(2, 3));
        x.recall(5);
        Check.due("LOAD of a remembered one", 9, x.person(2, 3));
        Check.due("NEEDS without FREE hours", 1000, x.person(2, 4));
        x.free(2, 9);
        Check.due("9 by 9", 1, x.person(2, 4));
        x.free(2, 8);
        Check.due("9 by 8, rounded up", 2, x.person(2, 4));
        PutOffParade y = Told.of("person at 0 free 1;person at 0 free 1;duty of 0 takes 1;duty of 1 takes 1");
        Check.due("SHARE without any SHAME", 0, y.person(0, 5));
        y.put(1);
        Check.due("SHARE of all the SHAME, which is 1", 100, y.person(1, 5));
        Check.due("SHARE of none of it", 0, y.person(0, 5));
        y.undo();
        Told.law(y, "shame 7 if owner < 1;shame 1;grow 3");
        Check.due("SHARE by the law", 88, y.person(0, 5));
        Check.due("SHARE by the law", 11, y.person(1, 5));
    }

    private static void duties() {
        Check.promise(8);
        PutOffParade x = Told.of(STREET);
        int[][] due = {
            {0, 6, 2, -1, -1, 0, 1, 0, 2, 0, 6}, {0, 3, 5, 1, 0, 0, 0, 0, 5, 2, 9}, {1, 4, 2, 1, -1, 0, 1, 0, 2, 1, 6},
            {1, 1, 8, -1, 2, 0, 0, 0, 8, 3, 12}, {2, 2, 13, -1, -1, 0, 1, 0, 13, 4, 15}, {0, 9, 0, -1, -1, 2, 0, 0, 0, -1, 0},
        };
        for (int d = 0; d < due.length; d++) {
            for (int what = 0; what < due[d].length; what++) {
                Check.due("duty(" + d + ", " + what + ")", due[d][what], x.duty(d, what));
            }
        }
        Check.index("duty(6, 0)", () -> x.duty(6, 0));
        Check.index("duty(-1, 0)", () -> x.duty(-1, 0));
        Check.index("index first", () -> x.duty(6, 11));
        Check.element("duty(0, 11)", () -> x.duty(0, 11));
        Check.element("duty(5, -1)", () -> x.duty(5, -1));
        Check.sentence(8, "(7, 8 as if it was waiting)");
        Told.law(x, "grow 7 if ready;shame 20 if ready;ease 3 if left < 1;grow 9 if left > 8");
        Check.due("GROWS of a forgotten one, as if it was waiting", 16, x.duty(5, 7));
        Check.due("SHAMES of a forgotten one, as if it was waiting", 20, x.duty(5, 8));
        Check.due("GROWS of one that is not READY", 0, x.duty(1, 7));
        x.call(0);
        int[] done = {0, 0, 2, -1, -1, 1, 0, 7, 19, -1, 0};
        for (int what = 0; what < done.length; what++) {
            Check.due("duty(0, " + what + ") done", done[what], x.duty(0, what));
        }
        Check.promise(8);
        Check.due("READY by one that is done", 1, x.duty(1, 6));
        Check.due("PLACE moves up", 1, x.duty(1, 9));
        Check.due("PASSES fewer", 6, x.duty(1, 10));
        x.forget(2);
        Check.due("not READY by a forgotten one", 0, x.duty(3, 6));
        Check.due("PLACE of a forgotten one", -1, x.duty(2, 9));
        Check.due("PASSES of a forgotten one", 0, x.duty(2, 10));
        Check.due("its LEFT stays", 4, x.duty(2, 1));
        PutOffParade y = Told.of("pace 9;person at 0 free 0;duty of 0 takes 1 age 4;duty of 0 takes 1 age 4;duty of 0 takes 1 age 3");
        Check.due("like ones by numbers", 1, y.duty(0, 9));
        Check.due("like ones by numbers", 2, y.duty(1, 9));
        Check.due("PASSES counts the like ones", 27, y.duty(0, 10));
        Check.due("PASSES counts the like ones", 27, y.duty(1, 10));
        Check.due("PASSES of the youngest", 9, y.duty(2, 10));
        Told.law(y, "grow 60;grow 60;shame 60;ease 1 if old");
        Check.due("GROWS is not bounded by 99", 120, y.duty(0, 7));
    }

    private static void counts() {
        Check.promise(59);
        PutOffParade x = Told.of(STREET);
        int[] due = {3, 6, 1, -1, 29, 7, 0, 3, 4, 31, 0, 21, 30, 0, 0};
        for (int what = 0; what < due.length; what++) {
            Check.due("count(" + what + ")", due[what], x.count(what));
        }
        Check.sentence(59, "NONE for another what");
        Check.due("count(15)", -1, x.count(15));
        Check.due("count(-1)", -1, x.count(-1));
        Check.due("count(2147483647)", -1, x.count(Integer.MAX_VALUE));
        Check.due("count(-2147483648)", -1, x.count(Integer.MIN_VALUE));
        Check.promise(59);
        Told.law(x, "shame 3 if ready;grow 1");
        x.free(2, 1);
        x.days(4);
        int[] later = {3, 6, 1, 2, 3, 8, 0, 3, 4, 12, 19, 4, 15, 2, 2};
        for (int what = 0; what < later.length; what++) {
            Check.due("four days later: count(" + what + ")", later[what], x.count(what));
        }
        Told.street(x, "ill 3");
        Check.due("call(2)", 3, x.call(2));
        Check.due("recall(5)", 1, x.recall(5));
        Check.due("put(5)", 2, x.put(5));
        int[] last = {3, 6, 2, 2, 3, 8, 3, 3, 4, 40, 23, 40, 17, 2, 3};
        for (int what = 0; what < last.length; what++) {
            Check.due("three acts later: count(" + what + ")", last[what], x.count(what));
        }
    }
}
