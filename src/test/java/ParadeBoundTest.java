/** Sentences from THE PARADE now to YOUNG, WHERE and CROWD that name a boundary: just below, at, and just above it. */
public final class ParadeBoundTest {
    private static final String FOUR = "person at 0 free 0;person at 0 free 0;person at 0 free 0;person at 0 free 0;";
    /** Ages 3, 0, 1, 3, 1, told in this order: they go by as 1, 2, 4, 0, 3. */
    private static final String FIVE = "person at 0 free 0;pace 3;duty of 0 takes 1 age 3;duty of 0 takes 1;duty of 0 takes 1 age 1;duty of 0 takes 1 age 3;"
        + "duty of 0 takes 1 age 1";

    public static void main(String[] args) {
        order();
        place();
        passes();
        can();
        greets();
        where();
        crowd();
        mostCalledOut();
        neighbours();
        leastAsBits();
        hoursToDo();
        setsToDo();
        severalToDo();
        soon();
        soonIsNone();
        longest();
        ring();
        before();
        depth();
        monthsOfYoung();
        young();
        youngIsNone();
        older();
        Check.close("ParadeBoundTest", 8, 17, 18, 19, 20, 21, 22, 23, 24, 25, 26, 27, 28, 29, 30, 31);
    }

    private static void order() {
        Check.sentence(17, "waiting DUTIES by AGE, the least first, of like ones by numbers: the k-th (from 0 on)");
        PutOffParade x = Told.of(FIVE);
        int[] due = {1, 2, 4, 0, 3};
        for (int k = 0; k < due.length; k++) {
            Check.due("parade(" + k + ")", due[k], x.parade(k));
        }
        Check.sentence(17, "THE PARADE: the k-th; NONE");
        for (int k : new int[] {5, 6, 11, 12, -1, -5, Integer.MAX_VALUE, Integer.MIN_VALUE}) {
            Check.due("parade(" + k + ")", -1, x.parade(k));
        }
        x.forget(4);
        Check.due("the last one then", 3, x.parade(3));
        Check.due("none behind it", -1, x.parade(4));
    }

    private static void place() {
        Check.sentence(8, "9 PLACE (NONE, if it is not waiting)");
        PutOffParade x = Told.of(FIVE);
        int[] due = {3, 0, 1, 4, 2};
        for (int d = 0; d < due.length; d++) {
            Check.due("PLACE of " + d, due[d], x.duty(d, 9));
        }
        x.forget(1);
        x.call(2);
        Check.due("PLACE of a forgotten one", -1, x.duty(1, 9));
        Check.due("PLACE of a done one", -1, x.duty(2, 9));
        Check.due("PLACE of the first one then", 0, x.duty(4, 9));
    }

    private static void passes() {
        Check.sentence(8, "how many waiting DUTIES there are that are not older than it (itself, too)");
        PutOffParade x = Told.of(FIVE);
        int[] due = {15, 3, 9, 15, 9};
        for (int d = 0; d < due.length; d++) {
            Check.due("PASSES of " + d, due[d], x.duty(d, 10));
        }
        Check.sentence(8, "10 PASSES (0, if it is not)");
        x.forget(1);
        x.call(0);
        Check.due("PASSES of a forgotten one", 0, x.duty(1, 10));
        Check.due("PASSES of a done one", 0, x.duty(0, 10));
        Check.due("PASSES of the oldest then", 9, x.duty(3, 10));
        Check.due("PASSES of the youngest then", 6, x.duty(2, 10));
        Check.due("of one alone", 9, Told.of("person at 0 free 0;pace 9;duty of 0 takes 1").duty(0, 10));
    }

    private static void can() {
        Check.sentence(18, "waiting DUTIES that are READY and LEFT of which is PASSES at most");
        PutOffParade x = Told.of("person at 0 free 0;pace 3;duty of 0 takes 3;duty of 0 takes 7 age 1;duty of 0 takes 9 age 2;duty of 0 takes 12 age 3 on 0;"
            + "duty of 0 takes 14 age 4;duty of 0 takes 1;forgotten 5");
        Check.due("LEFT 3 of 3, 7 of 6, 9 of 9, 12 of 12 but not READY, 14 of 15", 21, x.can());
        Check.state("LEFT 7 of 6", () -> x.call(1));
        Check.state("not READY", () -> x.call(3));
        Check.state("forgotten", () -> x.call(5));
        Told.street(x, "pace 4");
        Check.due("LEFT 7 of 8", 23, x.can());
        x.call(0);
        Check.due("READY then, but LEFT 7 of 4 and 9 of 8", 24, x.can());
    }

    private static void greets() {
        Check.sentence(19, "PACE times its PLACE and KERB together");
        PutOffParade x = Told.of(FIVE);
        int[][] due = {{1, 0, 0}, {1, 1, 3}, {1, 15, 45}, {2, 0, 3}, {3, 0, 12}, {3, 15, 57}};
        for (int[] row : due) {
            Check.due("greets(" + row[0] + ", " + row[1] + ")", row[2], x.greets(row[0], row[1]));
        }
        Check.index("KERB 16", () -> x.greets(1, 16));
        Check.index("KERB -1", () -> x.greets(1, -1));
        Check.sentence(19, "GREETS; NONE, if it is not waiting");
        x.forget(1);
        x.call(0);
        Check.due("of a forgotten one", -1, x.greets(1, 0));
        Check.due("of a done one", -1, x.greets(0, 15));
        Check.due("of the first one then", 0, x.greets(2, 0));
    }

    private static void where() {
        Check.sentence(20, "WHERE a DUTY is at an hour (0 to 300)");
        PutOffParade x = Told.of(FIVE);
        Check.due("hour 0", 0, x.where(1, 0));
        Check.due("hour 300", 16, x.where(1, 300));
        Check.argument("hour 301", () -> x.where(1, 301));
        Check.argument("hour -1", () -> x.where(1, -1));
        Check.sentence(20, "the hour by PACE, rounded down, less its PLACE");
        int[][] due = {{1, 2, 0}, {1, 3, 1}, {1, 5, 1}, {1, 6, 2}, {2, 5, 0}, {2, 6, 1}, {3, 14, 0}, {3, 15, 1}};
        for (int[] row : due) {
            Check.due("where(" + row[0] + ", " + row[1] + ")", row[2], x.where(row[0], row[1]));
        }
        Check.sentence(20, "NONE ahead of it; 16 behind 15");
        int[][] ends = {{2, 2, -1}, {2, 3, 0}, {3, 0, -1}, {3, 11, -1}, {3, 12, 0}, {1, 47, 15}, {1, 48, 16}, {1, 51, 16}, {3, 59, 15}, {3, 60, 16}, {3, 300, 16}};
        for (int[] row : ends) {
            Check.due("where(" + row[0] + ", " + row[1] + ")", row[2], x.where(row[0], row[1]));
        }
        Check.sentence(20, "of one that is not waiting NONE");
        x.forget(1);
        x.call(0);
        Check.due("of a forgotten one", -1, x.where(1, 9));
        Check.due("of a done one", -1, x.where(0, 300));
    }

    private static void crowd() {
        Check.sentence(21, "how many DUTIES are between them then (both too)");
        PutOffParade x = Told.of(FIVE);
        int[][] due = {{2, 2, 12, 1}, {1, 3, 12, 3}, {0, 4, 12, 5}, {0, 3, 12, 4}, {1, 4, 12, 4}, {5, 15, 12, 0}, {0, 15, 11, 4}, {0, 15, 0, 1}, {0, 15, 47, 5},
            {0, 15, 48, 4}, {15, 15, 48, 1}, {0, 15, 59, 1}, {0, 15, 60, 0}, {0, 15, 300, 0}};
        for (int[] row : due) {
            Check.due("crowd(" + row[0] + ", " + row[1] + ", " + row[2] + ")", row[3], x.crowd(row[0], row[1], row[2]));
        }
        Check.argument("hour 301", () -> x.crowd(0, 15, 301));
        Check.argument("hour -1", () -> x.crowd(0, 15, -1));
        Check.index("KERB 16", () -> x.crowd(0, 16, 0));
        Check.index("KERB -1", () -> x.crowd(-1, 0, 0));
        Check.sentence(21, "or the first KERB is above the second one");
        Check.argument("by one", () -> x.crowd(5, 4, 0));
        Check.argument("15 and 0", () -> x.crowd(15, 0, 0));
        Check.due("both are one", 0, x.crowd(4, 4, 0));
        x.forget(1);
        Check.due("a forgotten one is nowhere", 4, x.crowd(0, 15, 12));
    }

    private static void mostCalledOut() {
        Check.sentence(22, "the greatest number of CAN DUTIES");
        Check.due("none of CAN", 0, Told.of(FOUR + "duty of 0 takes 99;duty of 1 takes 99").most());
        Check.due("one", 2, Told.of(FOUR + "duty of 0 takes 99;duty of 1 takes 1").most());
        Check.due("three of five", 21, Told.of(FOUR + "duty of 0 takes 1;duty of 1 takes 1;duty of 2 takes 1;duty of 1 takes 1;duty of 3 takes 1").most());
        Check.sentence(22, "no two of one PERSON are");
        Check.due("all of one", 1, Told.of(FOUR + "duty of 0 takes 1;duty of 0 takes 1;duty of 0 takes 1").most());
        Check.due("two of two", 9, Told.of(FOUR + "duty of 0 takes 1;duty of 0 takes 1;duty of 0 takes 1;duty of 1 takes 1").most());
    }

    private static void neighbours() {
        Check.sentence(22, "no two whose PLACES are next to each other");
        Check.due("PLACES 0 and 1", 1, Told.of(FOUR + "duty of 0 takes 1;duty of 1 takes 1").most());
        Check.due("PLACES 0 and 2", 5, Told.of(FOUR + "duty of 0 takes 1;duty of 1 takes 99;duty of 2 takes 1").most());
        Check.due("of PLACES, not of numbers", 3, Told.of(FOUR + "duty of 0 takes 1;duty of 1 takes 1 age 9;duty of 0 takes 1 age 5").most());
        PutOffParade x = Told.of(FOUR + "duty of 0 takes 1;duty of 1 takes 1;duty of 2 takes 1");
        x.forget(1);
        Check.due("a forgotten one parts none", 1, x.most());
    }

    private static void leastAsBits() {
        Check.sentence(22, "of several sets the least as bits");
        Check.due("0 and 2, 0 and 3, 1 and 3", 5, Told.of(FOUR + "duty of 0 takes 1;duty of 1 takes 1;duty of 2 takes 1;duty of 3 takes 1").most());
        Check.due("2 and 0 go by as the last ones", 3,
            Told.of(FOUR + "duty of 0 takes 1 age 3;duty of 1 takes 1 age 1;duty of 2 takes 1;duty of 3 takes 1 age 2").most());
    }

    private static void hoursToDo() {
        Check.sentence(23, "DO in H hours (0 to 99)");
        PutOffParade x = Told.of("person at 0 free 0;duty of 0 takes 99 age 5;duty of 0 takes 1 age 3");
        Check.due("in 0", 0, x.does(0, false));
        Check.due("SHAME in 0", 8, x.does(0, true));
        Check.due("in 1", 2, x.does(1, false));
        Check.due("in 98", 2, x.does(98, false));
        Check.due("in 99", 1, x.does(99, false));
        Check.due("SHAME in 99", 3, x.does(99, true));
        Check.argument("in 100", () -> x.does(100, false));
        Check.argument("in -1", () -> x.does(-1, true));
        Check.sentence(23, "by which what the others SHAME by together is the least");
        PutOffParade z = Told.of("person at 0 free 0;duty of 0 takes 3 age 5;duty of 0 takes 3 age 4;duty of 0 takes 6 age 10;duty of 0 takes 1 age 50;forgotten 3");
        Check.due("9 of 19 is less than 10", 4, z.does(6, false));
        Check.due("9 of 19", 9, z.does(6, true));
        z.put(0);
        z.put(0);
        Check.due("10 of 21 is less than 11", 3, z.does(6, false));
        Check.sentence(23, "how much SHAME then");
        Check.due("of none", 21, z.does(2, true));
        Check.due("of the others", 10, z.does(6, true));
        Check.due("of all but one", 4, z.does(9, true));
        Check.due("of all", 0, z.does(12, true));
        Check.sentence(23, "whose LEFT together is H at most");
        PutOffParade y = Told.of("person at 0 free 0;duty of 0 takes 4 age 1;duty of 0 takes 5 age 2;duty of 0 takes 6 age 3");
        int[][] due = {{3, 0, 6}, {4, 1, 5}, {5, 2, 4}, {6, 4, 3}, {9, 3, 3}, {10, 5, 2}, {11, 6, 1}, {14, 6, 1}, {15, 7, 0}, {99, 7, 0}};
        for (int[] row : due) {
            Check.due("in " + row[0], row[1], y.does(row[0], false));
            Check.due("SHAME in " + row[0], row[2], y.does(row[0], true));
        }
    }

    private static void setsToDo() {
        Check.sentence(23, "all of which LEAN on none, on one that is done, or on one of the set");
        PutOffParade x = Told.of("person at 0 free 0;pace 9;duty of 0 takes 5;duty of 0 takes 1 age 9 on 0;duty of 0 takes 1 age 1;duty of 0 takes 1 age 9 on 1");
        Check.due("on one that is not of the set", 4, x.does(5, false));
        Check.due("with that one, but not all the way", 3, x.does(6, false));
        Check.due("all the way", 11, x.does(7, false));
        x.call(0);
        Check.due("on one that is done", 2, x.does(1, false));
        Check.due("and on one of the set", 10, x.does(2, false));
        x.forget(1);
        Check.due("on one that is forgotten", 4, x.does(99, false));
        x.recall(1);
        x.lean(1, 3);
        Check.due("round a ring in one hour", 4, x.does(1, false));
        Check.due("round a ring all of which are of the set", 10, x.does(2, false));
    }

    private static void severalToDo() {
        Check.sentence(23, "(of several the least as bits)");
        PutOffParade x = Told.of("person at 0 free 0;duty of 0 takes 3 age 4;duty of 0 takes 3 age 4;duty of 0 takes 3 age 4;duty of 0 takes 1");
        Check.due("one of three", 1, x.does(5, false));
        Check.due("two of three", 3, x.does(6, false));
        Check.due("without the one that SHAMES by 0", 7, x.does(10, false));
        Check.due("the one of 8 and one of two", 5, Told.of("person at 0 free 0;duty of 0 takes 3 age 4;duty of 0 takes 3 age 4;duty of 0 takes 3 age 8").does(6, false));
    }

    private static void soon() {
        Check.sentence(24, "the hours that are LEFT of it and of all that it LEANS on, one on another");
        PutOffParade x = Told.of("person at 0 free 0;pace 9;duty of 0 takes 1;duty of 0 takes 2 on 0;duty of 0 takes 4 on 1;duty of 0 takes 8 on 2");
        int[] due = {1, 3, 7, 15};
        for (int d = 0; d < due.length; d++) {
            Check.due("soon(" + d + ")", due[d], x.soon(d));
        }
        Check.sentence(24, "(done ones take none");
        x.call(0);
        Check.due("on a done one", 2, x.soon(1));
        Check.due("one on another", 14, x.soon(3));
        Check.sentence(24, "of one that is not waiting 0");
        Check.due("done", 0, x.soon(0));
        x.forget(3);
        Check.due("forgotten", 0, x.soon(3));
        x.lean(2, 3);
        x.lean(3, 2);
        Check.due("forgotten in a ring", 0, x.soon(3));
    }

    private static void soonIsNone() {
        Check.sentence(24, "if it LEANS round a ring or on a forgotten one");
        PutOffParade x = Told.of("person at 0 free 0;duty of 0 takes 1;duty of 0 takes 2 on 0;duty of 0 takes 4 on 1;duty of 0 takes 8");
        x.forget(1);
        Check.due("on a forgotten one", -1, x.soon(2));
        Check.due("nothing to do with it", 1, x.soon(0));
        x.recall(1);
        x.forget(0);
        Check.due("on one that LEANS on a forgotten one", -1, x.soon(2));
        x.recall(0);
        x.lean(0, 2);
        for (int d = 0; d < 3; d++) {
            Check.due("round a ring: soon(" + d + ")", -1, x.soon(d));
        }
        Check.due("apart from the ring", 8, x.soon(3));
        x.lean(0, -1);
        Check.due("the ring is opened", 7, x.soon(2));
    }

    private static void longest() {
        Check.sentence(25, "the greatest SOON of all waiting DUTIES that have one (0 without)");
        PutOffParade x = Told.of("person at 0 free 0;duty of 0 takes 1;duty of 0 takes 2 on 0;duty of 0 takes 9;duty of 0 takes 50");
        Check.due("of all", 50, x.longest());
        x.forget(3);
        Check.due("of waiting ones", 9, x.longest());
        x.lean(2, 3);
        Check.due("of those that have one", 3, x.longest());
        x.lean(0, 1);
        Check.due("without", 0, x.longest());
        Check.due("without DUTIES", 0, new PutOffParade().longest());
    }

    private static void ring() {
        Check.sentence(26, "DUTIES that LEAN, one on another, back on themselves, as bits");
        PutOffParade x = Told.of("person at 0 free 0;duty of 0 takes 1;duty of 0 takes 1 on 0;duty of 0 takes 1 on 1;duty of 0 takes 1 on 2");
        Check.due("none", 0, x.ring());
        x.lean(1, 2);
        Check.due("of two", 6, x.ring());
        x.lean(1, 3);
        Check.due("of three", 14, x.ring());
        x.lean(1, 0);
        x.lean(0, 3);
        Check.due("of all", 15, x.ring());
        x.lean(3, -1);
        Check.due("opened", 0, x.ring());
        Check.due("without DUTIES", 0, new PutOffParade().ring());
    }

    private static void before() {
        Check.sentence(27, "(without itself, but in a RING)");
        PutOffParade x = Told.of("person at 0 free 0;duty of 0 takes 1;duty of 0 takes 1 on 0;duty of 0 takes 1 on 1;duty of 0 takes 1 on 2");
        int[] due = {0, 1, 3, 7};
        for (int d = 0; d < due.length; d++) {
            Check.due("before(" + d + ")", due[d], x.before(d));
        }
        x.lean(1, 2);
        int[] then = {0, 6, 6, 6};
        for (int d = 0; d < then.length; d++) {
            Check.due("in a RING, or ahead of it, before(" + d + ")", then[d], x.before(d));
        }
        Check.sentence(28, "AFTER it: those that LEAN on it so");
        int[] after = {0, 14, 14, 0};
        for (int d = 0; d < after.length; d++) {
            Check.due("after(" + d + ")", after[d], x.after(d));
        }
    }

    private static void depth() {
        Check.sentence(29, "how many it LEANS on so that are not done");
        PutOffParade x = Told.of("person at 0 free 0;duty of 0 takes 1;duty of 0 takes 1 on 0;duty of 0 takes 1 on 1;duty of 0 takes 1 on 2");
        int[] due = {0, 1, 2, 3};
        for (int d = 0; d < due.length; d++) {
            Check.due("depth(" + d + ")", due[d], x.depth(d));
        }
        x.call(0);
        x.forget(2);
        int[] then = {0, 0, 1, 2};
        for (int d = 0; d < then.length; d++) {
            Check.due("depth(" + d + ") with a done and a forgotten one", then[d], x.depth(d));
        }
    }

    private static void monthsOfYoung() {
        Check.sentence(30, "YOUNG to A (0 to 98)");
        PutOffParade x = Told.of("person at 0 free 0;duty of 0 takes 1;duty of 0 takes 2 age 1;duty of 0 takes 4 age 98;duty of 0 takes 8 age 99");
        Check.due("0", 14, x.young(0));
        Check.due("98", 8, x.young(98));
        Check.argument("99", () -> x.young(99));
        Check.argument("-1", () -> x.young(-1));
        Check.sentence(30, "all waiting DUTIES older than A months");
        Check.due("1", 12, x.young(1));
        Check.due("97", 12, x.young(97));
        x.forget(3);
        Check.due("forgotten ones are not waiting", 4, x.young(97));
        Check.due("none is older", 0, x.young(98));
    }

    private static void young() {
        Check.sentence(30, "and all that they LEAN on that are not done, are done");
        PutOffParade x = Told.of("person at 0 free 0;pace 9;duty of 0 takes 1;duty of 0 takes 2 on 0;duty of 0 takes 4 age 50 on 1;duty of 0 takes 8 age 60 on 1");
        Check.due("one on another, each once", 15, x.young(0));
        Check.due("of the oldest", 11, x.young(50));
        x.call(0);
        Check.due("without a done one", 10, x.young(50));
    }

    private static void youngIsNone() {
        Check.sentence(30, "none, if one of these is in a RING or forgotten");
        PutOffParade x = Told.of("person at 0 free 0;duty of 0 takes 1;duty of 0 takes 2 on 0;duty of 0 takes 4 age 50 on 1;duty of 0 takes 8 age 60");
        x.forget(0);
        Check.due("one on another on a forgotten one", -1, x.young(49));
        Check.due("the oldest is apart from it", 8, x.young(50));
        x.recall(0);
        x.lean(0, 1);
        Check.due("on a RING", -1, x.young(49));
        Check.due("the oldest is apart from it", 8, x.young(59));
        Check.due("none is older", 0, x.young(60));
        x.lean(0, -1);
        x.lean(2, 3);
        x.lean(3, 2);
        Check.due("in a RING", -1, x.young(59));
        Check.due("none is older", 0, x.young(60));
    }

    private static void older() {
        Check.sentence(31, "OLDER than A (0 to 99): how many waiting DUTIES are");
        PutOffParade x = Told.of("person at 0 free 0;duty of 0 takes 1;duty of 0 takes 1 age 1;duty of 0 takes 1 age 50;duty of 0 takes 1 age 99");
        int[][] due = {{0, 3}, {1, 2}, {49, 2}, {50, 1}, {98, 1}, {99, 0}};
        for (int[] row : due) {
            Check.due("older(" + row[0] + ")", row[1], x.older(row[0]));
        }
        Check.argument("older(100)", () -> x.older(100));
        Check.argument("older(-1)", () -> x.older(-1));
        x.forget(3);
        x.call(1);
        Check.due("waiting ones alone", 1, x.older(0));
    }
}
