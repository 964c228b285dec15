/** Promises 44 to 48 and 50 to 52: days to come, as they are now, and as they may be. */
public final class ForecastTest {
    private static final String STREET = ShowTest.STREET;

    public static void main(String[] args) {
        done();
        all();
        help();
        crux();
        sick();
        ahead();
        trial();
        span();
        Check.close("ForecastTest", 44, 45, 46, 47, 48, 50, 51, 52);
    }

    private static void done() {
        Check.promise(44);
        PutOffParade x = Told.of(STREET, "", "ill 100");
        int[] due = {2, 3, 4, 5, -1, -1};
        for (int d = 0; d < due.length; d++) {
            Check.due("done(" + d + ")", due[d], x.done(d));
        }
        x.call(0);
        Check.due("it is done", 0, x.done(0));
        Check.index("done(6)", () -> x.done(6));
        Check.index("done(-1)", () -> x.done(-1));
        Check.due("by the 90th day", 90, Told.of("person at 0 free 1;duty of 0 takes 90").done(0));
        Check.due("not by the 91st day", -1, Told.of("person at 0 free 1;duty of 0 takes 91").done(0));
        Check.due("it grows on", -1, Told.of("person at 0 free 1;duty of 0 takes 90", "grow 1").done(0));
        Check.due("it grows by the month, and more later", 47, Told.of("person at 0 free 1;duty of 0 takes 30;day 30", "grow 6;grow 5 if age > 0").done(0));
    }

    private static void all() {
        Check.promise(45);
        PutOffParade x = Told.of(STREET, "", "ill 100");
        Check.due("one has no hour", -1, x.all());
        x.free(2, 1);
        Check.due("by the slowest", 5, x.all());
        x.recall(5);
        Check.due("by the remembered one", 5, x.all());
        x.lean(2, 3);
        Check.due("none in a ring", -1, x.all());
        x.forget(2);
        Check.due("none on a forgotten one", -1, x.all());
        x.forget(3);
        Check.due("without the forgotten ones", 5, x.all());
        x.forget(0);
        x.forget(1);
        x.forget(4);
        x.forget(5);
        Check.due("none is waiting", 0, x.all());
        Check.due("by the 90th day", 90, Told.of("person at 0 free 1;duty of 0 takes 90").all());
        Check.due("not by the 91st day", -1, Told.of("person at 0 free 1;duty of 0 takes 91").all());
        Check.due("nothing stays", 29, x.count(4));
        Check.due("no draws", 1, x.seed(1));
    }

    private static void help() {
        Check.promise(46);
        PutOffParade x = Told.of(STREET);
        Check.due("who has no hour", 2, x.help());
        x.free(2, 1);
        Check.due("of several the least", 0, x.help());
        x.free(0, 9);
        Check.due("9 at most", 1, x.help());
        PutOffParade y = Told.of("person at 0 free 9;person at 0 free 1;duty of 0 takes 10;duty of 1 takes 1");
        Check.due("no sooner by any", -1, y.help());
        Check.due("nothing stays", 1, y.person(1, 1));
        PutOffParade z = Told.of("person at 0 free 0;person at 0 free 0;duty of 0 takes 1;duty of 1 takes 1");
        Check.due("none by one alone", -1, z.help());
        z.free(0, 1);
        Check.due("the other one", 1, z.help());
        Check.due("the soonest, not the first", 1,
            Told.of("person at 0 free 1;person at 0 free 1;duty of 0 takes 1;duty of 1 takes 9").help());
    }

    private static void crux() {
        Check.promise(47);
        PutOffParade x = Told.of(STREET);
        Check.due("of whom nobody has an hour", 4, x.crux());
        x.free(2, 1);
        Check.due("whatever it LEANS on, of several the least", 1, x.crux());
        x.call(0);
        Check.due("the soonest, not the first", 2, x.crux());
        Check.due("the first one", 0, Told.of("person at 0 free 1;duty of 0 takes 3;duty of 0 takes 3").crux());
        PutOffParade y = Told.of("person at 0 free 1;person at 0 free 1;duty of 0 takes 3;duty of 1 takes 3");
        Check.due("by none it is sooner", -1, y.crux());
        y.forget(0);
        Check.due("waiting ones alone", 1, y.crux());
    }

    private static void sick() {
        Check.promise(48);
        PutOffParade x = Told.of(STREET);
        Check.due("ALL is none now", -1, x.sick(0));
        x.free(2, 1);
        Check.due("none then", 1000, x.sick(0));
        Check.due("none then", 1000, x.sick(1));
        Check.due("none then", 1000, x.sick(2));
        x.call(4);
        Check.due("who has nothing to do", 0, x.sick(2));
        Check.due("nothing stays", 1, x.person(2, 1));
        Check.index("sick(3)", () -> x.sick(3));
        Check.index("sick(-1)", () -> x.sick(-1));
    }

    private static void ahead() {
        Check.promise(50);
        PutOffParade x = Told.of(STREET, "", "ill 100");
        int[][] left = {
            {6, 3, 4, 1, 2, 9}, {2, 3, 2, 1, 2, 9}, {0, 1, 2, 1, 2, 9}, {0, 0, 2, 1, 2, 9}, {0, 0, 0, 1, 2, 9}, {0, 0, 0, 0, 2, 9}, {0, 0, 0, 0, 2, 9},
        };
        int[][] age = {{2, 5, 2, 8, 13, 0}, {2, 5, 2, 8, 13, 0}, {2, 6, 3, 9, 14, 1}, {2, 6, 3, 9, 14, 1}};
        for (int n = 0; n < left.length; n++) {
            for (int d = 0; d < 6; d++) {
                Check.due("ahead(" + d + ", " + n + ", 0)", left[n][d], x.ahead(d, n, 0));
                Check.due("ahead(" + d + ", " + n + ", 2)", d == 5 ? 2 : left[n][d] == 0 ? 1 : 0, x.ahead(d, n, 2));
                if (n < age.length) {
                    Check.due("ahead(" + d + ", " + n + ", 1)", age[n][d], x.ahead(d, n, 1));
                }
            }
        }
        Check.due("90 days", 16, x.ahead(4, 90, 1));
        Check.argument("ahead(0, 91, 0)", () -> x.ahead(0, 91, 0));
        Check.argument("ahead(0, -1, 0)", () -> x.ahead(0, -1, 0));
        Check.element("ahead(0, 0, 3)", () -> x.ahead(0, 0, 3));
        Check.element("ahead(0, 0, -1)", () -> x.ahead(0, 0, -1));
        Check.index("ahead(6, 0, 0)", () -> x.ahead(6, 0, 0));
        Check.index("ahead(-1, 0, 0)", () -> x.ahead(-1, 0, 0));
        Check.index("index first", () -> x.ahead(6, 91, 3));
        Check.argument("then the number", () -> x.ahead(0, 91, 3));
        Check.due("nothing stays", 6, x.duty(0, 1));
        Told.law(x, "grow 5 if day < 2");
        Check.due("it grows", 7, x.ahead(4, 2, 0));
        Check.due("forgotten ones do not", 9, x.ahead(5, 2, 0));
    }

    private static void trial() {
        Check.promise(51);
        PutOffParade x = Told.of(STREET);
        Check.due("now", 30, x.trial(0, false));
        Check.due("now", 0, x.trial(0, true));
        Check.due("in 3 days", 26, x.trial(3, false));
        Check.due("done in 3 days", 3, x.trial(3, true));
        Check.due("in 5 days", 14, x.trial(5, false));
        Check.due("done in 5 days", 15, x.trial(5, true));
        Check.due("nothing stays", 29, x.count(4));
        Check.due("no act", 0, x.count(14));
        Check.due("no row", 0, x.count(13));
        Check.due("no draws stay", 1, x.seed(1));
        x.call(0);
        Check.due("done ahead of it too", 1, x.trial(0, true));
        Check.argument("trial(91, false)", () -> x.trial(91, false));
        Check.argument("trial(-1, true)", () -> x.trial(-1, true));
        for (int n = 0; n <= 90; n += 9) {
            PutOffParade y = ill(77);
            int shame = y.trial(n, false);
            int done = y.trial(n, true);
            if (n > 0) {
                y.days(n);
            }
            Check.due("as the days come: SHAME in " + n, y.count(12), shame);
            Check.due("as the days come: done in " + n, y.count(10), done);
        }
    }

    private static PutOffParade ill(int seed) {
        PutOffParade x = Told.of(STREET, "grow 3 if ready;shame 7 if left > 3;ease 2 if day > 20", "ill 60");
        x.seed(seed);
        x.free(2, 1);
        return x;
    }

    private static void span() {
        Check.promise(52);
        boolean apart = false;
        for (int n = 0; n <= 90; n++) {
            int least = Integer.MAX_VALUE;
            int greatest = Integer.MIN_VALUE;
            for (int seed = 1; seed <= 6; seed++) {
                int shame = ill(seed).trial(n, false);
                least = Math.min(least, shame);
                greatest = Math.max(greatest, shame);
            }
            PutOffParade x = ill(99);
            Check.due("span(" + n + ", false)", least, x.span(n, false));
            Check.due("span(" + n + ", true)", greatest, x.span(n, true));
            Check.due("SEED stays", 99, x.seed(0));
            apart |= least != greatest;
        }
        Check.due("they are not all alike", true, apart);
        PutOffParade x = ill(3);
        Check.argument("span(91, false)", () -> x.span(91, false));
        Check.argument("span(-1, true)", () -> x.span(-1, true));
        Check.due("nothing stays", 29, x.count(4));
    }
}
