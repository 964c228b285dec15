/** Sentences from WHOSE to SHARE, ODDS to ALIKE among PEOPLE, that name a boundary: just below, at, and just above it. */
public final class PeopleBoundTest {
    private static final String TWO = "person at 0 free 0;person at 0 free 0;";

    public static void main(String[] args) {
        pairsOfKerbs();
        bytesOfKerbs();
        ask();
        fewerThanTwo();
        gap();
        missed();
        needs();
        swap();
        swapOfSeveral();
        rests();
        bothWait();
        halfOfLeft();
        sponsor();
        idle();
        worst();
        share();
        odds();
        oddsRoundedDown();
        spareHours();
        spareDays();
        alike();
        Check.close("PeopleBoundTest", 7, 32, 33, 34, 35, 36, 37, 38, 39, 40, 41, 42, 43, 49);
    }

    private static int whose(PutOffParade x, int... kerbs) {
        Told.bytes(x, kerbs);
        return x.whose();
    }

    private static int ask(PutOffParade x, int... kerbs) {
        Told.bytes(x, kerbs);
        return x.ask();
    }

    private static void pairsOfKerbs() {
        Check.sentence(32, "pairs of KERBS between which somebody stood (both too; the first not above the second)");
        PutOffParade x = Told.of("person at 0 free 0;person at 4 free 0;person at 5 free 0;person at 6 free 0;person at 15 free 0");
        int[][] due = {{4, 6, 14}, {5, 6, 12}, {4, 5, 6}, {5, 5, 4}, {1, 3, 0}, {0, 0, 1}, {15, 15, 16}, {0, 15, 31}, {7, 14, 0}};
        for (int[] row : due) {
            Check.due("between " + row[0] + " and " + row[1], row[2], whose(x, row[0], row[1]));
        }
        Told.bytes(x, 6, 5);
        Check.argument("the first is one above", x::whose);
        Told.bytes(x, 15, 0);
        Check.argument("the first is far above", x::whose);
        Check.sentence(32, "PEOPLE who stand there by all of these, as bits");
        Check.due("by two", 4, whose(x, 0, 5, 5, 15));
        Check.due("by two that nobody fits", 0, whose(x, 0, 4, 5, 15));
        Check.due("by the same twice", 14, whose(x, 4, 6, 4, 6));
    }

    private static void bytesOfKerbs() {
        Check.sentence(32, "(of each two bytes: KERBS, 0 to 15, the first not above the second; at most 40 bytes)");
        PutOffParade x = Told.of("person at 0 free 0;person at 15 free 0");
        int[][] wrong = {{0}, {0, 15, 0}, {0, 16}, {16, 16}, {15, 14}, {0, 255}, {255, 255}, {128, 128}, {0, 15, 0, 16}, {0, 15, 1, 0}};
        for (int[] bytes : wrong) {
            Told.bytes(x, bytes);
            Check.argument(bytes.length + " bytes that begin with " + bytes[0], x::whose);
            Told.bytes(x, bytes);
            Check.argument(bytes.length + " bytes that begin with " + bytes[0], x::ask);
        }
        int[][] lengths = {new int[38], new int[39], new int[40], new int[41], new int[42], new int[400]};
        for (int[] bytes : lengths) {
            Told.bytes(x, bytes);
            if (bytes.length == 38 || bytes.length == 40) {
                Check.due(bytes.length + " bytes", 1, x.whose());
            } else {
                Check.argument(bytes.length + " bytes", x::whose);
            }
        }
        Check.sentence(32, "the TAPE is not that (none may be told: all)");
        Check.due("none is told", 3, whose(x));
    }

    private static void ask() {
        Check.sentence(33, "the KERB (0 to 14) for which to ask whether one stands at it or below");
        Check.due("0 and 1", 0, ask(Told.of("person at 0 free 0;person at 1 free 0")));
        Check.due("14 and 15", 14, ask(Told.of("person at 14 free 0;person at 15 free 0")));
        Check.due("0 and 15", 0, ask(Told.of("person at 0 free 0;person at 15 free 0")));
        Check.due("7 and 9", 7, ask(Told.of("person at 9 free 0;person at 7 free 0")));
        Check.sentence(33, "so that the greater part is the least (of several the least");
        Check.due("two of four", 6, ask(Told.of("person at 3 free 0;person at 6 free 0;person at 9 free 0;person at 12 free 0")));
        Check.due("one of three is as well as two", 3, ask(Told.of("person at 3 free 0;person at 6 free 0;person at 9 free 0")));
        Check.due("one and four, or four and one", 3, ask(Told.of("person at 3 free 0;person at 6 free 0;person at 6 free 0;person at 6 free 0;person at 9 free 0")));
        Check.due("both at one KERB", 0, ask(Told.of("person at 9 free 0;person at 9 free 0")));
        Check.due("both at 15", 0, ask(Told.of("person at 15 free 0;person at 15 free 0")));
    }

    private static void fewerThanTwo() {
        Check.sentence(33, "ASK (the TAPE likewise); NONE");
        PutOffParade y = Told.of("person at 3 free 0;person at 6 free 0");
        Told.bytes(y, 0, 15, 3);
        Check.argument("three bytes", y::ask);
        Check.due("none told: all", 3, ask(y));
        Check.due("forty bytes", -1, ask(y, new int[40]));
        Told.bytes(y, new int[42]);
        Check.argument("42 bytes", y::ask);
        Check.sentence(33, "none with fewer than two)");
        PutOffParade x = Told.of("person at 3 free 0;person at 6 free 0;person at 6 free 0");
        Check.due("nobody fits", -1, ask(x, 0, 2));
        Check.due("one fits", -1, ask(x, 0, 5));
        Check.due("two fit", 0, ask(x, 4, 15));
        Check.due("three fit", 3, ask(x));
        Check.due("nobody is there", -1, ask(new PutOffParade()));
    }

    private static void gap() {
        Check.sentence(34, "the first AGE (0 to 98) that no waiting DUTY has, while one is older; none");
        String person = "person at 0 free 0;pace 9;duty of 0 takes 1";
        int[][] due = {{0, -1}, {1, 0}, {99, 0}};
        for (int[] row : due) {
            Check.due("of AGE " + row[0], row[1], Told.of(person + " age " + row[0]).gap());
        }
        Check.due("0, 1 and 2", -1, Told.of(person + ";duty of 0 takes 1 age 1;duty of 0 takes 1 age 2").gap());
        Check.due("0, 1 and 3", 2, Told.of(person + ";duty of 0 takes 1 age 1;duty of 0 takes 1 age 3").gap());
        Check.due("0, 2 and 4", 1, Told.of(person + ";duty of 0 takes 1 age 4;duty of 0 takes 1 age 2").gap());
        PutOffParade x = Told.of(person + ";duty of 0 takes 1 age 1;duty of 0 takes 1 age 2;duty of 0 takes 1 age 3");
        x.forget(1);
        Check.due("forgotten at 1", 1, x.gap());
        x.call(0);
        Check.due("done at 0", 0, x.gap());
        x.forget(3);
        x.forget(2);
        Check.due("none is older", -1, x.gap());
        Check.due("without DUTIES", -1, new PutOffParade().gap());
    }

    private static void missed() {
        Check.sentence(36, "those of them whose AGE is the GAP (of all GAPS), as bits");
        PutOffParade x = Told.of("person at 0 free 0;duty of 0 takes 1 age 1;duty of 0 takes 1 age 98;duty of 0 takes 1 age 99;duty of 0 takes 1;"
            + "duty of 0 takes 1 age 97;duty of 0 takes 1 age 99;duty of 0 takes 1 age 97;forgotten 0;forgotten 1;forgotten 3;forgotten 4;forgotten 5");
        Check.due("0, 1 and 98, but not 97 and 99", 11, x.missed());
        x.forget(2);
        Check.due("0 and 1, but nothing above 97", 9, x.missed());
        x.forget(6);
        Check.due("none is older than any", 0, x.missed());
        Check.sentence(35, "LOST: DUTIES that are forgotten, as bits");
        Check.due("all", 127, x.lost());
        x.recall(3);
        Check.due("all but one", 119, x.lost());
        x.call(3);
        Check.due("a done one is none", 119, x.lost());
        Check.due("without DUTIES", 0, new PutOffParade().lost());
    }

    private static void needs() {
        Check.sentence(7, "LOAD by FREE, rounded up (0 of none; 1000, if FREE is 0 and LOAD is not)");
        PutOffParade x = Told.of("person at 0 free 4;person at 0 free 0;person at 0 free 1;duty of 0 takes 7;duty of 1 takes 1;forgotten 1");
        Check.due("7 by 4", 2, x.person(0, 4));
        Check.due("none by 0", 0, x.person(1, 4));
        Check.due("none by 1", 0, x.person(2, 4));
        x.recall(1);
        Check.due("1 by 0", 1000, x.person(1, 4));
        x.hand(1, 0);
        Check.due("8 by 4", 2, x.person(0, 4));
        Told.street(x, "duty of 0 takes 1");
        Check.due("9 by 4", 3, x.person(0, 4));
        x.free(0, 9);
        Check.due("9 by 9", 1, x.person(0, 4));
        x.free(0, 8);
        Check.due("9 by 8", 2, x.person(0, 4));
        x.free(0, 0);
        Check.due("9 by 0", 1000, x.person(0, 4));
    }

    private static void swap() {
        Check.sentence(37, "NEEDS of neither are more and of one at least are fewer");
        String two = "person at 0 free 2;person at 0 free 2;";
        Check.due("both need as many", -1, Told.of(two + "duty of 0 takes 4;duty of 1 takes 3").swap(0, 1));
        Check.due("one needs fewer, the other one more", -1, Told.of(two + "duty of 0 takes 4;duty of 1 takes 2").swap(0, 1));
        Check.due("one needs two fewer, the other one one more", -1, Told.of("person at 0 free 1;person at 0 free 2;duty of 0 takes 4;duty of 1 takes 2").swap(0, 1));
        Check.due("the same seen from the other one", -1, Told.of("person at 0 free 1;person at 0 free 2;duty of 0 takes 4;duty of 1 takes 2").swap(1, 0));
        Check.due("the first one needs fewer, the other one as many", 1, Told.of(two + "duty of 0 takes 3;duty of 1 takes 2;duty of 1 takes 1;duty of 0 takes 2").swap(0, 1));
        Check.due("the second one needs fewer, the first one as many", 12, Told.of(two + "duty of 0 takes 3;duty of 1 takes 2;duty of 1 takes 1;duty of 0 takes 2").swap(1, 0));
        PutOffParade x = Told.of("person at 0 free 3;person at 0 free 2;duty of 0 takes 2;duty of 0 takes 2;duty of 1 takes 1;duty of 1 takes 2");
        Check.due("4 by 3 and 3 by 2", 2, x.swap(0, 1));
        Check.sentence(37, "the two waiting DUTIES, one of each");
        x.forget(0);
        Check.due("a forgotten one is none", -1, x.swap(0, 1));
        Check.due("one has none", -1, Told.of(two + "duty of 0 takes 3").swap(0, 1));
        Check.due("both have none", -1, Told.of("person at 0 free 2;person at 0 free 2").swap(0, 1));
    }

    private static void swapOfSeveral() {
        Check.sentence(37, "12 times that of the first one and that of the second one (of several the least; none)");
        String all = "person at 0 free 0;person at 0 free 1;duty of 0 takes 1;duty of 0 takes 2;duty of 1 takes 9;duty of 1 takes 9;duty of 1 takes 1";
        PutOffParade x = Told.of(all);
        Check.due("0 and 2, 0 and 3, 1 and 2, 1 and 3", 2, x.swap(0, 1));
        Check.due("2 and 0, 2 and 1, 3 and 0, 3 and 1", 24, x.swap(1, 0));
        x.forget(2);
        Check.due("0 and 3, 1 and 3", 3, x.swap(0, 1));
        x.forget(0);
        Check.due("1 and 3", 15, x.swap(0, 1));
        Check.due("3 and 1", 37, x.swap(1, 0));
        x.forget(3);
        Check.due("none", -1, x.swap(0, 1));
    }

    private static void rests() {
        Check.sentence(38, "from which neither would have more by its other one");
        PutOffParade x = Told.of(TWO + "pace 9;duty of 0 takes 4 age 3;duty of 0 takes 4 age 2;duty of 0 takes 4 age 1;duty of 0 takes 1 age 4;duty of 0 takes 1;"
            + "duty of 0 takes 99 age 99;duty of 0 takes 2");
        int[] due = {6, 14, 8, 7, 9, 6, 8};
        for (int d = 0; d < due.length; d++) {
            Check.due("rests(0, 1, " + d + ")", due[d], x.rests(0, 1, d));
        }
        x.call(4);
        Check.due("LEFT 0, SHAME 0: all are alike", 15, x.rests(0, 1, 4));
    }

    private static void bothWait() {
        Check.sentence(38, "if both wait, each has 0 less that");
        PutOffParade x = Told.of(TWO + "duty of 0 takes 9 age 4;duty of 0 takes 9 age 5;duty of 0 takes 8 age 4");
        Check.due("4 less 9 is below 0 less 4", 8, x.rests(0, 1, 0));
        Check.due("5 less 9 is above 0 less 5", 6, x.rests(0, 1, 1));
        Check.due("4 less 8 is 0 less 4", 14, x.rests(0, 1, 2));
        Check.sentence(38, "who waits has what it SHAMES by, if the other one does it");
        Check.due("as if both did it, with no hour to do", 7, Told.of(TWO + "duty of 0 takes 1 age 9").rests(1, 0, 0));
    }

    private static void halfOfLeft() {
        Check.sentence(38, "the half of LEFT (rounded down)");
        PutOffParade x = Told.of(TWO + "duty of 0 takes 1 age 9;duty of 0 takes 2 age 9;duty of 0 takes 3 age 9");
        Check.due("the half of 1 is 0: both may do it", 7, x.rests(0, 1, 0));
        Check.due("the half of 2 is 1", 6, x.rests(0, 1, 1));
        Check.due("the half of 3 is 1", 6, x.rests(0, 1, 2));
    }

    private static void sponsor() {
        Check.sentence(39, "for each waiting DUTY PRICE times AGE less LEFT (0 at least)");
        PutOffParade x = Told.of("person at 0 free 0;price 5;duty of 0 takes 11 age 2;duty of 0 takes 10 age 2;duty of 0 takes 9 age 2;duty of 0 takes 50 age 20");
        Check.due("-1, 0, 1 and 50", 51, x.sponsor());
        x.forget(3);
        Check.due("a forgotten one brings nothing", 1, x.sponsor());
        Told.street(x, "price 0");
        Check.due("PRICE 0", 0, x.sponsor());
        Check.due("without DUTIES", 0, new PutOffParade().sponsor());
    }

    private static void idle() {
        Check.sentence(40, "the PERSON of the least LOAD (of several the least; none)");
        String three = "person at 0 free 0;person at 0 free 0;person at 0 free 0";
        Check.due("all have none", 0, Told.of(three).idle());
        Check.due("the last two have none", 1, Told.of(three + ";duty of 0 takes 1").idle());
        Check.due("one fewer", 2, Told.of(three + ";duty of 0 takes 5;duty of 1 takes 5;duty of 2 takes 4").idle());
        Check.due("the last two", 1, Told.of(three + ";duty of 0 takes 5;duty of 1 takes 4;duty of 2 takes 4").idle());
        Check.due("without PEOPLE", -1, new PutOffParade().idle());
    }

    private static void worst() {
        Check.sentence(41, "the DUTY, waiting, that SHAMES the most (of several the least; none)");
        PutOffParade x = Told.of("person at 0 free 0;duty of 0 takes 1;duty of 0 takes 1 age 4;duty of 0 takes 1 age 5;duty of 0 takes 1 age 5;duty of 0 takes 1 age 6");
        Check.due("by one more", 4, x.worst());
        x.forget(4);
        Check.due("of two", 2, x.worst());
        Told.law(x, "ease 60");
        Check.due("all by 0", 0, x.worst());
        x.forget(0);
        Check.due("all but the forgotten by 0", 1, x.worst());
        x.forget(1);
        x.forget(2);
        x.forget(3);
        Check.due("none is waiting", -1, x.worst());
        Check.due("without DUTIES", -1, new PutOffParade().worst());
    }

    private static void share() {
        Check.sentence(7, "SHAME of its waiting DUTIES in hundredths of that of all, rounded down (0 without)");
        PutOffParade x = Told.of("person at 0 free 0;person at 0 free 0;person at 0 free 0;duty of 0 takes 1 age 1;duty of 1 takes 1 age 2;duty of 1 takes 1 age 9;forgotten 2");
        Check.due("1 of 3", 33, x.person(0, 5));
        Check.due("2 of 3", 66, x.person(1, 5));
        Check.due("none of 3", 0, x.person(2, 5));
        x.forget(0);
        Check.due("none of 2", 0, x.person(0, 5));
        Check.due("all of 2", 100, x.person(1, 5));
        x.forget(1);
        Check.due("without", 0, x.person(1, 5));
        x.recall(1);
        Told.law(x, "ease 2");
        Check.due("SHAME 0 of SHAME 0", 0, x.person(1, 5));
        Told.law(x, "ease 1");
        Check.due("SHAME 1 of SHAME 1", 100, x.person(1, 5));
    }

    private static void odds() {
        Check.sentence(42, "ODDS of N DAYS (0 to 6) and K (0 to 6)");
        PutOffParade x = Told.of("ill 50");
        int[][] due = {{0, 0, 10000}, {0, 1, 0}, {0, 6, 0}, {6, 0, 10000}, {6, 6, 156}, {1, 1, 5000}, {1, 2, 0}, {5, 6, 0}};
        for (int[] row : due) {
            Check.due("odds(" + row[0] + ", " + row[1] + ")", row[2], x.odds(row[0], row[1]));
        }
        Check.argument("N 7", () -> x.odds(7, 0));
        Check.argument("N -1", () -> x.odds(-1, 0));
        Check.argument("K 7", () -> x.odds(6, 7));
        Check.argument("K -1", () -> x.odds(6, -1));
        Check.sentence(42, "that one is ILL on K of them at least, each alike");
        int[] atLeast = {10000, 9843, 8906, 6562, 3437, 1093, 156};
        for (int k = 0; k <= 6; k++) {
            Check.due("on " + k + " of 6", atLeast[k], x.odds(6, k));
        }
        Check.due("ILL 0 on none", 10000, new PutOffParade().odds(6, 0));
        Check.due("ILL 0 on one", 0, new PutOffParade().odds(6, 1));
        Check.due("ILL 100 on all", 10000, Told.of("ill 100").odds(6, 6));
    }

    private static void oddsRoundedDown() {
        Check.sentence(42, "in 10000, rounded down");
        Check.due("ILL 1 of two, 199 exactly", 199, Told.of("ill 1").odds(2, 1));
        Check.due("ILL 33 of three, 359.37", 359, Told.of("ill 33").odds(3, 3));
        Check.due("ILL 99 of six, 9414.8", 9414, Told.of("ill 99").odds(6, 6));
        Check.due("ILL 99 of six, 9999.99..", 9999, Told.of("ill 99").odds(6, 1));
        Check.due("ILL 1 of six, 0.00..", 0, Told.of("ill 1").odds(6, 6));
    }

    private static int spare(int ill, int free, int hours) {
        return Told.of("person at 0 free " + free + ";ill " + ill).spare(0, hours);
    }

    private static void spareHours() {
        Check.sentence(43, "SPARE of a PERSON and H hours (1 to 54)");
        PutOffParade x = Told.of("person at 0 free 9");
        Check.due("1", 1, x.spare(0, 1));
        Check.due("54", 6, x.spare(0, 54));
        Check.argument("0", () -> x.spare(0, 0));
        Check.argument("55", () -> x.spare(0, 55));
        Check.argument("-1", () -> x.spare(0, -1));
        Check.sentence(43, "(FREE for each DAY on which it is not ILL); none");
        int[][] due = {{9, 9, 1}, {9, 10, 2}, {9, 18, 2}, {9, 19, 3}, {8, 48, 6}, {8, 49, -1}, {1, 6, 6}, {1, 7, -1}, {0, 1, -1}, {4, 8, 2}, {4, 9, 3}};
        for (int[] row : due) {
            Check.due("FREE " + row[0] + ", " + row[1] + " hours", row[2], spare(0, row[0], row[1]));
        }
    }

    private static void spareDays() {
        Check.sentence(43, "the fewest DAYS N (1 to 6) in which with ODDS of 9000 at least it has H hours");
        Check.due("9000 on one DAY", 1, spare(10, 4, 4));
        Check.due("8900 on one DAY", 2, spare(11, 4, 4));
        Check.due("9007 on five DAYS", 5, spare(63, 1, 1));
        Check.due("8997 on six DAYS", -1, spare(49, 1, 2));
        Check.due("9011 on six DAYS", 6, spare(68, 1, 1));
        Check.due("8920 on six DAYS", -1, spare(69, 1, 1));
        Check.due("always ill", -1, spare(100, 9, 1));
        Check.due("all six DAYS, never ill", 6, spare(0, 1, 6));
        Check.due("all six DAYS, 9414", 6, spare(1, 1, 6));
        Check.due("all six DAYS, 8858", -1, spare(2, 1, 6));
    }

    private static void alike() {
        Check.sentence(49, "pairs of waiting DUTIES of like LEFT and AGE: how many");
        PutOffParade x = Told.of("person at 0 free 0;duty of 0 takes 2 age 3;duty of 0 takes 2 age 4;duty of 0 takes 3 age 3;duty of 0 takes 2 age 3;duty of 0 takes 2 age 3");
        Check.due("three", 3, x.alike());
        x.forget(4);
        Check.due("one", 1, x.alike());
        x.put(0);
        Check.due("another one", 1, x.alike());
        x.forget(1);
        Check.due("none", 0, x.alike());
        Check.due("without DUTIES", 0, new PutOffParade().alike());
    }
}
