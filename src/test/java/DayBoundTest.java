/** Sentences of A DAY more, ACTS and THE LOG that name a boundary or go round: just below, at, and just above it. */
public final class DayBoundTest {
    private static final String P = "person at 1 free 1;";

    public static void main(String[] args) {
        illness();
        hours();
        readyAsItIsThen();
        firstOneHasTheTool();
        hourOrMore();
        othersLeaveOutTheirs();
        dayGoesRound();
        monthIsBounded();
        ageIsBounded();
        leftIsBounded();
        aheadOfBoth();
        waitingOnesGrow();
        paradeOnDayTwo();
        drawGoesRound();
        drawsOfAll();
        aheadHasNoDraws();
        calledOut();
        putOff();
        nothingChanged();
        latestFloats();
        Check.close("DayBoundTest", 9, 10, 16, 50, 54, 55, 59);
    }

    private static int drawn(int seed) {
        return (seed * 1103515245 + 12345 >> 16 & 32767) % 100;
    }

    private static int next(int seed) {
        return seed * 1103515245 + 12345;
    }

    private static int seedThatDraws(int hundredths) {
        int seed = 1;
        while (drawn(seed) != hundredths) {
            seed++;
        }
        return seed;
    }

    private static int leftBehindADay(String street, int seed) {
        PutOffParade x = Told.of(street);
        x.seed(seed);
        x.days(1);
        return x.duty(0, 1);
    }

    private static void lefts(String when, PutOffParade x, int... due) {
        for (int d = 0; d < due.length; d++) {
            Check.due("LEFT of " + d + " " + when, due[d], x.duty(d, 1));
        }
    }

    private static PutOffParade dayLater(String street) {
        PutOffParade x = Told.of(street);
        x.days(1);
        return x;
    }

    private static void illness() {
        Check.sentence(16, "if DRAW modulo 100 is below ILL, it does nothing");
        String street = P + "duty of 0 takes 9;ill ";
        for (int r : new int[] {0, 1, 49, 98, 99}) {
            int seed = seedThatDraws(r);
            Check.due("DRAW " + r + ", ILL " + r, 8, leftBehindADay(street + r, seed));
            Check.due("DRAW " + r + ", ILL " + (r + 1), 9, leftBehindADay(street + (r + 1), seed));
        }
        Check.due("DRAW 99, ILL 0", 8, leftBehindADay(street + 0, seedThatDraws(99)));
        Check.due("DRAW 0, ILL 100", 9, leftBehindADay(street + 100, seedThatDraws(0)));
    }

    private static void hours() {
        Check.sentence(16, "it works FREE hours");
        lefts("by FREE 0", dayLater("person at 0 free 0;duty of 0 takes 9"), 9);
        lefts("by FREE 1", dayLater("person at 0 free 1;duty of 0 takes 9"), 8);
        lefts("by FREE 9", dayLater("person at 0 free 9;duty of 0 takes 10"), 1);
        Check.sentence(16, "it works as many hours as it has yet, LEFT at most");
        lefts("by FREE 4", dayLater("person at 0 free 4;duty of 0 takes 5;duty of 0 takes 9"), 1, 9);
        lefts("by FREE 4", dayLater("person at 0 free 4;duty of 0 takes 4;duty of 0 takes 9"), 0, 9);
        lefts("by FREE 4", dayLater("person at 0 free 4;duty of 0 takes 3;duty of 0 takes 9"), 0, 8);
        lefts("by FREE 4", dayLater("person at 0 free 4;duty of 0 takes 3;duty of 0 takes 1;duty of 0 takes 1"), 0, 0, 1);
        Check.sentence(16, "with LEFT 0 it is done");
        PutOffParade x = Told.of("person at 0 free 4;duty of 0 takes 9");
        Check.due("LEFT 5", 0, x.days(1));
        Check.due("LEFT 1", 0, x.days(1));
        Check.due("waiting", 0, x.duty(0, 5));
        Check.due("LEFT 0", 1, x.days(1));
        Check.due("done", 1, x.duty(0, 5));
        Check.due("done once", 0, x.days(1));
    }

    private static void readyAsItIsThen() {
        Check.sentence(16, "on each that is READY (as it is then)");
        lefts("by what is done ahead of it", dayLater("person at 0 free 3;duty of 0 takes 2;duty of 0 takes 2 on 0"), 0, 1);
        lefts("by what is not done yet", dayLater("person at 0 free 3;duty of 0 takes 4;duty of 0 takes 2 on 0"), 1, 2);
        lefts("by another PERSON ahead of it", dayLater(P + "person at 0 free 3;duty of 0 takes 1;duty of 1 takes 2 on 0"), 0, 0);
        lefts("by another PERSON behind it", dayLater(P + "person at 0 free 3;duty of 1 takes 1;duty of 0 takes 2 on 0"), 0, 2);
        Check.sentence(16, "it goes once through its DUTIES by numbers");
        PutOffParade x = Told.of("person at 0 free 9;duty of 0 takes 1;duty of 0 takes 1");
        x.lean(0, 1);
        x.days(1);
        lefts("by what is done behind it", x, 1, 0);
        x.days(1);
        lefts("on the next DAY", x, 0, 0);
    }

    private static void firstOneHasTheTool() {
        Check.sentence(16, "on a DAY it is with the first one (by numbers)");
        String two = "person at 0 free 2;person at 0 free 2;";
        lefts("with the first one", dayLater(two + "duty of 0 takes 9 tool 0;duty of 1 takes 9 tool 0"), 7, 9);
        lefts("by numbers of PEOPLE", dayLater(two + "duty of 1 takes 9 tool 0;duty of 0 takes 9 tool 0"), 9, 7);
        Check.sentence(16, "But of each TOOL there is one");
        lefts("with each there is one", dayLater(two + "duty of 0 takes 9 tool 0;duty of 1 takes 9 tool 1"), 7, 7);
        lefts("with TOOL 5", dayLater(two + "duty of 0 takes 9 tool 5;duty of 1 takes 9 tool 5"), 7, 9);
        lefts("with one that was done by it", dayLater(two + "duty of 0 takes 1 tool 3;duty of 1 takes 9 tool 3"), 0, 9);
        lefts("with both of one PERSON", dayLater("person at 0 free 5;duty of 0 takes 3 tool 2;duty of 0 takes 3 tool 2"), 0, 1);
        lefts("without a TOOL", dayLater(two + "duty of 0 takes 9;duty of 1 takes 9"), 7, 7);
        PutOffParade x = Told.of(two + "duty of 0 takes 4 tool 0;duty of 1 takes 9 tool 0");
        x.days(2);
        lefts("on the second DAY", x, 0, 9);
        x.days(1);
        lefts("on the third DAY it is with the other one", x, 0, 7);
    }

    private static void hourOrMore() {
        Check.sentence(16, "who works an hour or more on a DUTY that needs it");
        lefts("by FREE 0", dayLater("person at 0 free 0;person at 0 free 2;duty of 0 takes 9 tool 0;duty of 1 takes 9 tool 0"), 9, 7);
        lefts("by FREE 1", dayLater("person at 0 free 1;person at 0 free 2;duty of 0 takes 9 tool 0;duty of 1 takes 9 tool 0"), 8, 9);
        lefts("with no hour left for it", dayLater("person at 0 free 2;person at 0 free 2;duty of 0 takes 2;duty of 0 takes 9 tool 0;duty of 1 takes 9 tool 0"), 0, 9, 7);
        lefts("with an hour left for it", dayLater("person at 0 free 3;person at 0 free 2;duty of 0 takes 2;duty of 0 takes 9 tool 0;duty of 1 takes 9 tool 0"), 0, 8, 9);
        lefts("if it is not READY",
            dayLater("person at 0 free 2;person at 0 free 2;duty of 1 takes 9;duty of 0 takes 9 tool 0 on 0;duty of 1 takes 9 tool 0"), 7, 9, 9);
        PutOffParade x = Told.of("person at 0 free 2;person at 0 free 2;duty of 0 takes 9 tool 0;duty of 1 takes 9 tool 0;ill 50");
        int seed = 1;
        while (drawn(seed) >= 50 || drawn(next(seed)) < 50) {
            seed++;
        }
        x.seed(seed);
        x.days(1);
        lefts("if the first one is ill", x, 9, 7);
        PutOffParade y = Told.of("person at 0 free 2;person at 0 free 2;duty of 0 takes 9 tool 0;duty of 1 takes 9 tool 0;forgotten 0");
        y.days(1);
        lefts("if it is forgotten", y, 9, 7);
    }

    private static void othersLeaveOutTheirs() {
        Check.sentence(16, "others leave out theirs that need it");
        lefts("of three", dayLater("person at 0 free 2;person at 0 free 2;person at 0 free 2;duty of 0 takes 9 tool 1;duty of 1 takes 9 tool 1;"
            + "duty of 1 takes 9;duty of 2 takes 9 tool 1;duty of 2 takes 1 tool 2;duty of 2 takes 9 tool 1;duty of 2 takes 9"), 7, 9, 7, 9, 0, 9, 8);
    }

    private static void dayGoesRound() {
        Check.sentence(16, "DAY is 1 more; behind 30 it is 1, MONTH is 1 more");
        PutOffParade x = Told.of("day 28;month 7");
        int[][] due = {{29, 7}, {30, 7}, {1, 8}, {2, 8}};
        for (int[] then : due) {
            x.days(1);
            Check.due("DAY", then[0], x.count(4));
            Check.due("MONTH on DAY " + then[0], then[1], x.count(5));
        }
        x.days(28);
        Check.due("DAY", 30, x.count(4));
        Check.due("MONTH", 8, x.count(5));
        x.days(90);
        Check.due("DAY 90 days later", 30, x.count(4));
        Check.due("MONTH 90 days later", 11, x.count(5));
        PutOffParade y = new PutOffParade();
        y.days(29);
        Check.due("30 of 30", 30, y.count(4));
        Check.due("the first month", 0, y.count(5));
        y.days(1);
        Check.due("DAY", 1, y.count(4));
        Check.due("the next month", 1, y.count(5));
    }

    /**
     * In 512 calls MONTH comes to some 2,500: what holds it at 9999 can be seen behind them alone, where
     * the document leaves open what is answered; so nothing is asked there but that it is not above.
     */
    private static void monthIsBounded() {
        Check.sentence(16, "(9999 at most)");
        PutOffParade x = Told.of("month 999;day 30");
        x.days(1);
        Check.due("above what a text can tell", 1000, x.count(5));
        for (int i = 0; i < 500; i++) {
            x.days(90);
        }
        Check.due("three months a call", 2500, x.count(5));
        int most = 0;
        for (int i = 0; i < 3000; i++) {
            most = Math.max(most, monthOf(x));
        }
        Check.due("MONTH is 9999 at most", true, most <= 9999);
    }

    private static int monthOf(PutOffParade x) {
        try {
            x.days(90);
            return x.count(5);
        } catch (RuntimeException e) {
            return 0;
        }
    }

    private static void ageIsBounded() {
        Check.sentence(16, "each waiting or forgotten DUTY: AGE is 1 more (99 at most");
        PutOffParade x = Told.of("person at 0 free 0;duty of 0 takes 1 age 97;duty of 0 takes 1 age 98;duty of 0 takes 1 age 99;duty of 0 takes 1 age 97;"
            + "duty of 0 takes 1 age 99;duty of 0 takes 1 age 5;forgotten 3;forgotten 4;day 30");
        x.call(5);
        int[][] due = {{98, 99, 99, 98, 99, 5}, {99, 99, 99, 99, 99, 5}, {99, 99, 99, 99, 99, 5}};
        for (int month = 0; month < due.length; month++) {
            x.days(month == 0 ? 1 : 30);
            for (int d = 0; d < 6; d++) {
                Check.due("AGE of " + d + " in month " + (month + 1), due[month][d], x.duty(d, 2));
            }
        }
        Check.due("OLDER than 98", 3, x.older(98));
    }

    private static void leftIsBounded() {
        Check.sentence(16, "LEFT more by what it GROWS by (99 at most");
        PutOffParade x = Told.of("person at 0 free 0;duty of 0 takes 88;duty of 0 takes 89;duty of 0 takes 90;duty of 0 takes 99;day 30", "grow 10");
        x.days(1);
        lefts("on DAY 1", x, 98, 99, 99, 99);
        x.days(29);
        lefts("on DAY 30", x, 98, 99, 99, 99);
        x.days(1);
        lefts("a month later", x, 99, 99, 99, 99);
        PutOffParade y = Told.of("person at 0 free 0;duty of 0 takes 1;day 30", "grow 60;".repeat(11) + "grow 60");
        y.days(1);
        lefts("by 720", y, 99);
        PutOffParade z = Told.of("person at 0 free 0;duty of 0 takes 7;day 30", "grow 0;shame 9");
        z.days(1);
        lefts("by nothing", z, 7);
    }

    private static void aheadOfBoth() {
        Check.sentence(16, "by all as it is ahead of both");
        String street = "person at 0 free 0;duty of 0 takes 19 age 11;day 30";
        String[] laws = {"grow 5 if age < 12", "grow 5 if not old", "grow 5 if left < 20"};
        for (String law : laws) {
            PutOffParade x = Told.of(street, law);
            x.days(1);
            lefts("by " + law, x, 24);
            Check.due("AGE by " + law, 12, x.duty(0, 2));
            x.days(30);
            lefts("a month later by " + law, x, 24);
        }
        PutOffParade y = Told.of(street, "grow 5 if old;grow 7 if left > 19");
        y.days(1);
        lefts("by neither", y, 19);
        y.days(30);
        lefts("by one", y, 24);
        y.days(30);
        lefts("by both", y, 36);
    }

    private static void waitingOnesGrow() {
        Check.sentence(16, "of a waiting one alone");
        PutOffParade x = Told.of("person at 0 free 0;duty of 0 takes 2;duty of 0 takes 2;duty of 0 takes 2;forgotten 1;day 30", "grow 10");
        x.call(2);
        x.days(1);
        lefts("of a waiting, a forgotten and a done one", x, 12, 2, 0);
        Check.due("AGE of the waiting one", 1, x.duty(0, 2));
        Check.due("AGE of the forgotten one", 1, x.duty(1, 2));
        Check.due("AGE of the done one", 0, x.duty(2, 2));
        PutOffParade y = Told.of("person at 0 free 2;duty of 0 takes 2;day 30", "grow 10");
        Check.due("done on the last DAY", 1, y.days(1));
        lefts("of one that is done on that DAY", y, 0);
    }

    private static void paradeOnDayTwo() {
        Check.sentence(16, "If DAY is 2 then, THE PARADE goes by: a row of THE LOG for each waiting DUTY, in its order");
        PutOffParade x = Told.of("person at 0 free 0;duty of 0 takes 1 age 5;duty of 0 takes 1;duty of 0 takes 1;duty of 0 takes 1 age 5;forgotten 2;day 29",
            "shame 10 if day > 1 and day < 3");
        int[] rows = {0, 0, 3, 3};
        for (int day = 0; day < rows.length; day++) {
            x.days(1);
            Check.due("rows on DAY " + x.count(4), rows[day], x.count(13));
        }
        int[][] due = {{1, 3, 2, 16}, {1, 0, 1, 16}, {1, 1, 0, 11}};
        for (int ago = 0; ago < due.length; ago++) {
            for (int what = 0; what < 4; what++) {
                Check.due("log(" + ago + ", " + what + ")", due[ago][what], x.log(ago, what));
            }
        }
        x.days(28);
        Check.due("rows on DAY 1", 3, x.count(13));
        x.days(90);
        Check.due("three months in one call", 12, x.count(13));
        Told.street(x, "day 2");
        Check.due("a DAY that is told is none that comes", 12, x.count(13));
        x.days(1);
        Check.due("rows on DAY 3", 12, x.count(13));
        Told.street(x, "day 1");
        x.days(1);
        Check.due("rows on DAY 2", 15, x.count(13));
        PutOffParade y = Told.of("person at 0 free 3;duty of 0 takes 3;duty of 0 takes 3");
        y.days(1);
        Check.due("one that is done on that DAY has no row", 1, y.count(13));
        Check.due("the other one is ahead", 0, y.log(0, 2));
    }

    private static void drawGoesRound() {
        Check.sentence(55, "as an int that goes round; bits 16 to 30");
        int[] seeds = {1, 0, -1, 2, 3, Integer.MAX_VALUE, Integer.MIN_VALUE, 65535, -65536, 1103515245, 12345};
        for (int seed : seeds) {
            long told = 1103515245L * seed + 12345L;
            long round = Math.floorMod(told, 1L << 32);
            int draw = (int) (round / 65536 % 32768 % 100);
            PutOffParade x = Told.of(P + "duty of 0 takes 9;ill " + draw);
            x.seed(seed);
            x.days(1);
            Check.due("DRAW of " + seed + " is not below " + draw, 8, x.duty(0, 1));
            Check.due("SEED behind " + seed, round >= 1L << 31 ? round - (1L << 32) : round, x.seed(seed));
            Told.street(x, "ill " + (draw + 1));
            x.days(1);
            Check.due("DRAW of " + seed + " is below " + (draw + 1), 8, x.duty(0, 1));
        }
        Check.sentence(55, "(SEED 1 at first)");
        Check.due("seed(5)", 1, new PutOffParade().seed(5));
    }

    private static void drawsOfAll() {
        Check.sentence(16, "Each PERSON, by numbers: if DRAW modulo 100");
        PutOffParade x = Told.of("person at 0 free 1;person at 0 free 0;person at 0 free 1");
        x.days(1);
        Check.due("three DRAWS a DAY", next(next(next(1))), x.seed(1));
        x.days(2);
        Check.due("six in two DAYS", next(next(next(next(next(next(1)))))), x.seed(1));
        PutOffParade y = new PutOffParade();
        y.days(90);
        Check.due("none without PEOPLE", 1, y.seed(1));
    }

    private static void aheadHasNoDraws() {
        Check.sentence(50, "AHEAD by N DAYS (0 to 90): as so many DAYS without illness (no DRAWS)");
        PutOffParade x = Told.of(P + "duty of 0 takes 91;ill 100");
        Check.due("by 0", 91, x.ahead(0, 0, 0));
        Check.due("by 1", 90, x.ahead(0, 1, 0));
        Check.due("by 90", 1, x.ahead(0, 90, 0));
        Check.due("AGE by 29", 0, x.ahead(0, 29, 1));
        Check.due("AGE by 30", 1, x.ahead(0, 30, 1));
        Check.due("AGE by 90", 3, x.ahead(0, 90, 1));
        Check.argument("by 91", () -> x.ahead(0, 91, 0));
        Check.argument("by -1", () -> x.ahead(0, -1, 0));
        Check.due("no DRAWS", 1, x.seed(1));
    }

    private static void calledOut() {
        Check.sentence(9, "(on the pavement: LEFT is PASSES at most)");
        PutOffParade x = Told.of("person at 0 free 0;pace 5;duty of 0 takes 4;duty of 0 takes 11 age 1;duty of 0 takes 15 age 2;duty of 0 takes 21 age 3");
        Check.due("CAN", 5, x.can());
        Check.state("LEFT 11 of PASSES 10", () -> x.call(1));
        Check.state("LEFT 21 of PASSES 20", () -> x.call(3));
        Check.due("LEFT 15 of PASSES 15", 15, x.call(2));
        Check.due("LEFT 4 of PASSES 5", 5, x.call(0));
        Check.state("LEFT 11 of PASSES 5", () -> x.call(1));
        Check.due("CAN then", 0, x.can());
    }

    private static void putOff() {
        Check.sentence(10, "put off (AGE 1 more, 99 at most)");
        PutOffParade x = Told.of("person at 0 free 0;duty of 0 takes 1 age 97");
        Check.due("98", 98, x.put(0));
        Check.due("99", 99, x.put(0));
        Check.due("99 at most", 99, x.put(0));
        Check.due("AGE", 99, x.duty(0, 2));
    }

    private static void nothingChanged() {
        Check.sentence(59, "(each also if it changes nothing)");
        PutOffParade x = Told.of("person at 0 free 0;duty of 0 takes 1 age 99");
        String ahead = Seen.street(x);
        x.put(0);
        Check.due("put off at 99", 1, x.count(14));
        x.lean(0, -1);
        Check.due("told to LEAN on none, as it does", 2, x.count(14));
        x.free(0, 0);
        Check.due("FREE is told as it is", 3, x.count(14));
        for (int act = 3; act > 0; act--) {
            Check.due("it can be undone", true, x.undo());
        }
        Check.due("nothing was changed", ahead, Seen.street(x));
        PutOffParade y = Told.of("person at 0 free 0;duty of 0 takes 1;duty of 0 takes 1 on 0");
        y.lean(1, 0);
        Check.due("told to LEAN on one, as it does", 1, y.count(14));
        PutOffParade z = new PutOffParade();
        z.days(90);
        Check.due("DAYS of nobody", 1, z.count(14));
    }

    private static void latestFloats() {
        Check.sentence(54, "THE LOG: the latest 60 floats");
        PutOffParade x = Told.of("person at 0 free 0;duty of 0 takes 1 age 1;duty of 0 takes 1;duty of 0 takes 1");
        x.days(90);
        for (int i = 0; i < 5; i++) {
            x.days(90);
        }
        x.days(30);
        Check.due("19 parades of three", 57, x.count(13));
        Check.due("the first one", 0, x.log(56, 0));
        Check.due("nothing ahead of it", -1, x.log(57, 0));
        x.days(30);
        Check.due("20 parades of three", 60, x.count(13));
        Check.due("the first one", 0, x.log(59, 0));
        Check.due("was the first of THE PARADE", 1, x.log(59, 1));
        x.forget(1);
        x.forget(2);
        x.days(30);
        Check.due("one more", 60, x.count(13));
        Check.due("the second one is the first then", 2, x.log(59, 1));
        Check.due("of the same parade", 0, x.log(59, 0));
        Check.due("nothing ahead of it", -1, x.log(60, 0));
        Check.due("rows of the one that is lost", 19, x.led(1, false));
        Check.due("rows of the second one", 20, x.led(2, false));
        Check.due("rows of the third one", 21, x.led(0, false));
        Check.due("the latest MONTH of the second one", 19, x.led(2, true));
        Check.due("the latest MONTH of the third one", 20, x.led(0, true));
    }
}
