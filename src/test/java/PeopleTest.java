/** Promises 37 to 43 and 49: swaps, rests, sponsors, who is idle, what is worst, odds, likes. */
public final class PeopleTest {
    private static final String STREET = ShowTest.STREET;

    public static void main(String[] args) {
        swap();
        rests();
        sponsor();
        idle();
        worst();
        odds();
        spare();
        alike();
        Check.close("PeopleTest", 37, 38, 39, 40, 41, 42, 43, 49);
    }

    private static void swap() {
        Check.promise(37);
        PutOffParade x = Told.of("person at 0 free 2;person at 0 free 4;person at 0 free 1;duty of 0 takes 5;duty of 0 takes 2;"
            + "duty of 1 takes 3;duty of 1 takes 4;duty of 2 takes 8;duty of 0 takes 9;forgotten 5");
        Check.due("swap(0, 1)", 3, x.swap(0, 1));
        Check.due("swap(1, 0): the first one's duty first", 36, x.swap(1, 0));
        Check.due("swap(0, 2): one of them would need more", -1, x.swap(0, 2));
        x.free(2, 0);
        Check.due("no day more without FREE hours", -1, x.swap(0, 2));
        Check.due("he needs 1000 all the same", -1, x.swap(2, 0));
        x.forget(3);
        Check.due("forgotten ones are not handed over", -1, x.swap(0, 1));
        Check.argument("both are one", () -> x.swap(1, 1));
        Check.index("swap(0, 3)", () -> x.swap(0, 3));
        Check.index("swap(3, 0)", () -> x.swap(3, 0));
        Check.index("swap(-1, -1)", () -> x.swap(-1, -1));
        PutOffParade y = Told.of("person at 0 free 0;person at 0 free 1;duty of 0 takes 1;duty of 1 takes 5;duty of 1 takes 1;duty of 0 takes 2");
        Check.due("of several the least", 1, y.swap(0, 1));
        Check.due("of several the least", 12, y.swap(1, 0));
        y.call(0);
        Check.due("done ones are not handed over", 37, y.swap(0, 1));
        PutOffParade z = Told.of("person at 0 free 2;person at 0 free 9;duty of 0 takes 4;duty of 1 takes 3");
        Check.due("both the same days", -1, z.swap(0, 1));
        z.free(0, 1);
        Check.due("one fewer, the other one the same", 1, z.swap(0, 1));
        Check.due("nobody has anything", -1, Told.of("person at 0 free 2;person at 0 free 2;duty of 0 takes 3").swap(0, 1));
    }

    private static void rests() {
        Check.promise(38);
        PutOffParade x = Told.of("person at 0 free 2;person at 0 free 4;duty of 0 takes 5;duty of 0 takes 6 age 5;duty of 0 takes 6 age 3;"
            + "duty of 0 takes 1 age 5;duty of 0 takes 1;duty of 0 takes 7 age 3;duty of 0 takes 5 age 3;duty of 0 takes 2 age 1;duty of 0 takes 3 age 1");
        int[] due = {8, 6, 14, 7, 9, 8, 6, 14, 8};
        for (int d = 0; d < due.length; d++) {
            Check.due("rests(0, 1, " + d + ")", due[d], x.rests(0, 1, d));
            Check.due("rests(1, 0, " + d + ")", due[d], x.rests(1, 0, d));
        }
        Told.law(x, "shame 9 if duty < 1;ease 60 if duty > 7");
        Check.due("by what it SHAMES by", 6, x.rests(0, 1, 0));
        Check.due("by 0 at least", 8, x.rests(0, 1, 8));
        x.call(3);
        Check.due("a done one of no hours", 7, x.rests(0, 1, 3));
        Check.argument("both are one", () -> x.rests(1, 1, 0));
        Check.index("rests(2, 0, 0)", () -> x.rests(2, 0, 0));
        Check.index("rests(0, 2, 0)", () -> x.rests(0, 2, 0));
        Check.index("rests(0, 1, 9)", () -> x.rests(0, 1, 9));
        Check.index("rests(0, 0, 9)", () -> x.rests(0, 0, 9));
        Check.index("rests(-1, 0, 0)", () -> x.rests(-1, 0, 0));
        Check.index("rests(0, 1, -1)", () -> x.rests(0, 1, -1));
        PutOffParade y = Told.of("person at 0 free 2;person at 0 free 4;duty of 0 takes 1");
        y.call(0);
        Check.due("no hours and no shame: all choices", 15, y.rests(0, 1, 0));
    }

    private static void sponsor() {
        Check.promise(39);
        PutOffParade x = Told.of(STREET);
        Check.due("of the shared street", 104, x.sponsor());
        x.recall(5);
        Check.due("0 at least of each", 104, x.sponsor());
        x.call(4);
        Check.due("waiting ones alone", 54, x.sponsor());
        Told.street(x, "price 1");
        Check.due("PRICE 1", 9, x.sponsor());
        Told.street(x, "price 0");
        Check.due("PRICE 0", 0, x.sponsor());
        Check.due("PRICE 3 at first", 2, Told.of("person at 0 free 0;duty of 0 takes 4 age 2").sponsor());
        Check.due("the most", 50 * 99 - 1, Told.of("price 50;person at 0 free 0;duty of 0 takes 1 age 99").sponsor());
    }

    private static void idle() {
        Check.promise(40);
        PutOffParade x = Told.of(STREET);
        Check.due("of the shared street", 2, x.idle());
        x.hand(4, 1);
        Check.due("of nothing", 2, x.idle());
        x.hand(0, 2);
        Check.due("of 3, 7 and 6", 0, x.idle());
        x.hand(1, 2);
        Check.due("of 0 (but a forgotten one)", 0, x.idle());
        PutOffParade y = Told.of("person at 0 free 0;person at 0 free 0;person at 0 free 0;duty of 0 takes 3;duty of 1 takes 2;duty of 2 takes 2");
        Check.due("of several the least", 1, y.idle());
    }

    private static void worst() {
        Check.promise(41);
        PutOffParade x = Told.of(STREET);
        Check.due("of the shared street", 4, x.worst());
        x.call(4);
        Check.due("not a done one", 3, x.worst());
        x.forget(3);
        Check.due("not a forgotten one", 1, x.worst());
        Told.law(x, "shame 3 if duty > 1;ease 20 if duty < 2");
        Check.due("by the law", 2, x.worst());
        Told.law(x, "ease 60");
        Check.due("of several the least, also of no SHAME", 0, x.worst());
        x.forget(0);
        x.forget(1);
        x.forget(2);
        Check.due("none is waiting", -1, x.worst());
    }

    private static void odds() {
        Check.promise(42);
        int[][] due = {
            {0, 0, 0, 10000}, {0, 6, 0, 10000}, {0, 6, 1, 0}, {0, 0, 1, 0}, {100, 3, 3, 10000}, {100, 3, 4, 0}, {100, 6, 6, 10000}, {100, 0, 0, 10000},
            {50, 2, 1, 7500}, {50, 2, 2, 2500}, {50, 6, 3, 6562}, {50, 6, 0, 10000}, {33, 2, 2, 1089}, {33, 3, 3, 359}, {37, 6, 6, 25}, {1, 6, 6, 0},
            {1, 6, 1, 585}, {99, 6, 6, 9414}, {10, 3, 1, 2710}, {10, 3, 2, 280}, {10, 3, 3, 10}, {70, 5, 6, 0}, {25, 1, 1, 2500},
        };
        for (int[] row : due) {
            PutOffParade x = Told.of("ill " + row[0]);
            Check.due("ill " + row[0] + ": odds(" + row[1] + ", " + row[2] + ")", row[3], x.odds(row[1], row[2]));
        }
        PutOffParade x = new PutOffParade();
        Check.argument("odds(7, 0)", () -> x.odds(7, 0));
        Check.argument("odds(-1, 0)", () -> x.odds(-1, 0));
        Check.argument("odds(0, 7)", () -> x.odds(0, 7));
        Check.argument("odds(0, -1)", () -> x.odds(0, -1));
    }

    private static void spare() {
        Check.promise(43);
        int[][] due = {
            {0, 4, 9, 3}, {0, 4, 8, 2}, {0, 4, 1, 1}, {0, 4, 24, 6}, {0, 4, 25, -1}, {0, 9, 54, 6}, {0, 0, 1, -1}, {10, 4, 4, 1}, {11, 4, 4, 2},
            {10, 4, 5, 3}, {9, 1, 5, 6}, {10, 1, 5, -1}, {10, 1, 6, -1}, {100, 9, 1, -1}, {50, 1, 1, 4}, {50, 1, 2, -1}, {48, 2, 3, 6}, {49, 2, 3, -1}, {68, 9, 1, 6}, {69, 9, 1, -1},
        };
        for (int[] row : due) {
            PutOffParade x = Told.of("person at 0 free 3;person at 0 free " + row[1] + ";ill " + row[0]);
            Check.due("ill " + row[0] + ", free " + row[1] + ": spare(1, " + row[2] + ")", row[3], x.spare(1, row[2]));
        }
        PutOffParade x = Told.of("person at 0 free 3");
        Check.argument("spare(0, 0)", () -> x.spare(0, 0));
        Check.argument("spare(0, 55)", () -> x.spare(0, 55));
        Check.argument("spare(0, -1)", () -> x.spare(0, -1));
        Check.index("spare(1, 1)", () -> x.spare(1, 1));
        Check.index("spare(-1, 1)", () -> x.spare(-1, 1));
        Check.index("index first", () -> x.spare(1, 0));
    }

    private static void alike() {
        Check.promise(49);
        PutOffParade x = Told.of("person at 0 free 0;pace 9;duty of 0 takes 1;duty of 0 takes 1;duty of 0 takes 2;duty of 0 takes 1 age 1;"
            + "duty of 0 takes 2 age 1;duty of 0 takes 1;duty of 0 takes 1 age 1");
        Check.due("three pairs of three and one of two", 4, x.alike());
        x.forget(5);
        Check.due("waiting ones alone", 2, x.alike());
        x.call(0);
        Check.due("waiting ones alone", 1, x.alike());
        x.put(2);
        Check.due("by LEFT and AGE", 2, x.alike());
        Check.due("of the shared street", 0, Told.of(STREET).alike());
    }
}
