/** The full case: the TAPE, PEOPLE, DUTIES, LINES, texts, THE LOG, the remembered ACTS, the depth of ( and not. */
public final class FullTest {
    public static void main(String[] args) {
        fullTape();
        fullTapeIsRead();
        sixPeople();
        twelveDuties();
        paradeOfTwelve();
        chainOfTwelve();
        ringOfTwelve();
        likeTwelve();
        daysOfAll();
        fourteenLines();
        twelveLines();
        twelveTexts();
        sixtyRows();
        rowsComeBack();
        deepest();
        dearestSum();
        lastCall();
        Check.close("FullTest", 1, 2, 4, 5, 6, 7, 8, 17, 22, 23, 24, 26, 27, 28, 29, 30, 32, 33, 37, 44, 45, 49, 54, 56, 58, 59);
    }

    /** Six PEOPLE at KERBS 0, 3, .. 15 with 1, 2, .. 6 hours; DUTY d of PERSON d modulo 6 takes d + 1 hours, AGE is d. */
    private static PutOffParade full() {
        StringBuilder people = new StringBuilder();
        for (int p = 0; p < 6; p++) {
            people.append(p > 0 ? ";" : "").append("person at ").append(3 * p).append(" free ").append(p + 1);
        }
        StringBuilder duties = new StringBuilder();
        for (int d = 0; d < 12; d++) {
            duties.append(d > 0 ? ";" : "").append("duty of ").append(d % 6).append(" takes ").append(d + 1).append(" age ").append(d);
        }
        PutOffParade x = Told.of(people.toString());
        Told.street(x, duties.toString());
        return x;
    }

    private static void fullTape() {
        Check.sentence(2, "how many it has; NONE, and none come, if it would have more than 400");
        PutOffParade x = new PutOffParade();
        for (int n = 20; n <= 400; n += 20) {
            Check.due("feed", n, x.feed(1, 1, 1, 1, 1));
        }
        Check.due("feed behind 400", -1, x.feed(1, 1, 1, 1, 1));
        Check.due("none came", 400, Seen.tape(x));
        x.end(399);
        Check.due("feed behind 399", -1, x.feed(1, 1, 1, 1, 1));
        x.end(381);
        Check.due("feed behind 381", -1, x.feed(1, 1, 1, 1, 1));
        Check.due("none came", 381, Seen.tape(x));
        x.end(380);
        Check.due("feed behind 380", 400, x.feed(1, 1, 1, 1, 1));
        x.end(379);
        Check.due("feed behind 379", 399, x.feed(1, 1, 1, 1, 1));
        Check.due("end(400) of 399", false, x.end(400));
        Check.due("end(399) of 399", true, x.end(399));
    }

    private static void fullTapeIsRead() {
        Check.sentence(6, "or the text's length, if more must come");
        String blanks = " ".repeat(394);
        Told.wrongStreet(blanks + "ill 1;|");
        Told.wrongStreet("ill 1;" + blanks + "|");
        Told.wrongStreet(blanks + "ill 1|x");
        Told.wrongLaw(" ".repeat(396) + "grow|");
        Told.wrongLaw("grow 1 if 1" + "+1".repeat(194) + "+|");
        PutOffParade x = Told.of(" ".repeat(395) + "ill 7");
        Check.due("the last five of 400", 7, x.count(6));
        Told.street(x, "ill 9" + " ".repeat(395));
        Check.due("the first five of 400", 9, x.count(6));
        Told.law(x, "grow 60;".repeat(11) + " ".repeat(305) + "grow 60");
        Check.due("twelve LINES of 400", 12, x.count(3));
        String sum = "1" + "+1".repeat(190);
        PutOffParade y = Told.of("person at 0 free 0;duty of 0 takes 1");
        Check.due("a sum of 191 in 400", 1, Told.law(y, "grow 7 if " + sum + ">190" + " ".repeat(5)));
        Check.due("is above 190", 7, y.duty(0, 7));
        Told.law(y, "grow 7 if " + sum + ">191" + " ".repeat(5));
        Check.due("is not above 191", 0, y.duty(0, 7));
        Told.law(y, "grow 7 if " + "old or ".repeat(55) + "ready");
        Check.due("56 ATOMS", 7, y.duty(0, 7));
        Told.law(y, "grow7if" + "1<2and".repeat(65) + "1<2");
        Check.due("66 ATOMS of 400", 7, y.duty(0, 7));
        Told.law(y, "grow7if" + "1<2and".repeat(65) + "2<1");
        Check.due("the last one fails", 0, y.duty(0, 7));
    }

    private static void sixPeople() {
        Check.sentence(7, "PEOPLE (at most 6, numbered from 0 on)");
        PutOffParade x = full();
        Check.due("six", 6, x.count(0));
        int[][] due = {{0, 1, 65, 8, 8, 9}, {3, 2, 130, 10, 5, 12}, {6, 3, 260, 12, 4, 15}, {9, 4, 520, 14, 4, 18}, {12, 5, 1040, 16, 4, 21}, {15, 6, 2080, 18, 3, 24}};
        for (int p = 0; p < 6; p++) {
            for (int what = 0; what < 6; what++) {
                Check.due("person(" + p + ", " + what + ")", due[p][what], x.person(p, what));
            }
        }
        Check.index("a seventh one", () -> x.person(6, 0));
        Told.wrongStreet(x, "|person at 1 free 1");
        Told.wrongStreet("person at 1 free 1;".repeat(6) + "|person at 1 free 1");
        Told.wrongStreet("person at 1 free 1;".repeat(6) + "duty of |6 takes 1");
        Check.due("FREE of the last one", 6, x.free(5, 9));
        Check.due("told", 9, x.person(5, 1));
        Check.due("handed over by the last one", 5, x.hand(11, 0));
        Check.due("and to it", 0, x.hand(0, 5));
        Check.due("OWNED", 33, x.person(5, 2));
        Check.due("IDLE", 0, full().idle());
        Check.due("SPARE of the last one", 6, full().spare(5, 36));
        Check.due("RESTS of the last ones", 6, x.rests(4, 5, 11));
        Check.sentence(32, "PEOPLE who stand there by all of these");
        Told.bytes(x, 0, 15);
        Check.due("all six", 63, x.whose());
        Told.bytes(x, 15, 15);
        Check.due("the last one", 32, x.whose());
        Check.sentence(33, "so that the greater part is the least");
        Check.due("three of six", 6, x.ask());
        Told.bytes(x, 1, 15);
        Check.due("two of five", 6, x.ask());
    }

    private static void twelveDuties() {
        Check.sentence(8, "DUTIES (at most 12, numbered from 0 on)");
        PutOffParade x = full();
        Check.due("twelve", 12, x.count(1));
        for (int d = 0; d < 12; d++) {
            int[] due = {d % 6, d + 1, d, -1, -1, 0, 1, 0, d, d, 2 * (d + 1)};
            for (int what = 0; what < due.length; what++) {
                Check.due("duty(" + d + ", " + what + ")", due[what], x.duty(d, what));
            }
        }
        Check.index("a thirteenth one", () -> x.duty(12, 0));
        Told.wrongStreet(x, "|duty of 0 takes 1");
        Told.wrongStreet("person at 1 free 1;" + "duty of 0 takes 1;".repeat(12) + "|duty of 0 takes 1");
        Told.street(x, "forgotten 11");
        Check.due("the last one is forgotten", 2048, x.lost());
        Check.due("remembered", 11, x.recall(11));
        Check.due("called out", 24, x.call(11));
        Check.due("done", 2048, x.count(10));
        Check.due("the one ahead LEANS on it", -1, x.lean(10, 11));
        Check.due("and is READY", 1, x.duty(10, 6));
        for (int d = 10; d >= 0; d--) {
            x.call(d);
        }
        Check.due("all are done", 4095, x.count(10));
        PutOffParade y = Told.of("person at 4 free 1;" + "duty of 0 takes 1;".repeat(11) + "duty of 0 takes 12 age 34 tool 5 on 10");
        int[] due = {0, 12, 34, 5, 10, 0, 0, 0, 34, 11, 24};
        for (int what = 0; what < due.length; what++) {
            Check.due("the twelfth, what " + what, due[what], y.duty(11, what));
        }
    }

    private static void paradeOfTwelve() {
        Check.sentence(17, "the k-th (from 0 on)");
        PutOffParade x = full();
        for (int k = 0; k < 12; k++) {
            Check.due("parade(" + k + ")", k, x.parade(k));
        }
        Check.due("parade(12)", -1, x.parade(12));
        Check.due("CAN", 4095, x.can());
        Check.due("GREETS the last one at 15", 52, x.greets(11, 15));
        Check.due("ahead of its KERB 0", -1, x.where(11, 21));
        Check.due("at KERB 0", 0, x.where(11, 22));
        Check.due("at KERB 15", 15, x.where(11, 53));
        Check.due("behind it", 16, x.where(11, 54));
        Check.due("CROWD of all", 12, x.crowd(0, 15, 22));
        Check.sentence(22, "the greatest number of CAN DUTIES that can be called out");
        Check.due("six of twelve", 2709, x.most());
        PutOffParade y = Told.of("person at 0 free 0;person at 0 free 0;" + "duty of 0 takes 1;".repeat(11) + "duty of 1 takes 1");
        for (int d = 0; d < 10; d++) {
            y.forget(d);
        }
        Check.due("CAN of the last two", 3072, y.can());
        Check.due("they are next to each other", 1024, y.most());
        y.recall(9);
        Check.due("one goes by ahead of these", 2560, y.most());
        Check.sentence(23, "DO in H hours (0 to 99)");
        Check.due("all but the one that SHAMES by 0", 4094, x.does(99, false));
        Check.due("SHAME then", 0, x.does(99, true));
        Check.due("77 hours", 4094, x.does(77, false));
        Check.due("76 hours", 4092, x.does(76, false));
        Check.due("12 hours", 2048, x.does(12, false));
        Check.due("SHAME of all", 66, x.does(0, true));
    }

    private static void chainOfTwelve() {
        Check.sentence(24, "one on another (done ones take none");
        PutOffParade x = full();
        for (int d = 1; d < 12; d++) {
            x.lean(d, d - 1);
        }
        Check.due("SOON of the last one", 78, x.soon(11));
        Check.due("LONGEST", 78, x.longest());
        Check.sentence(27, "BEFORE a DUTY: those that it LEANS on, one on another, as bits");
        Check.due("of the last one", 2047, x.before(11));
        Check.sentence(28, "AFTER it: those that LEAN on it so");
        Check.due("of the first one", 4094, x.after(0));
        Check.sentence(29, "DEPTH of a DUTY: how many it LEANS on so that are not done");
        Check.due("of the last one", 11, x.depth(11));
        Check.due("no RING", 0, x.ring());
        Check.sentence(30, "the fewest hours in which all waiting DUTIES older than A months");
        Check.due("of all", 78, x.young(0));
        Check.due("of the last one", 78, x.young(10));
        Check.due("of none", 0, x.young(11));
        PutOffParade y = Told.of("person at 0 free 1;" + "duty of 0 takes 99 age 99;".repeat(11) + "duty of 0 takes 99 age 99");
        for (int d = 0; d < 11; d++) {
            y.lean(d, d + 1);
        }
        Check.due("SOON of the first one", 1188, y.soon(0));
        Check.due("YOUNG", 1188, y.young(98));
        Check.due("LOAD", 1188, y.person(0, 3));
        Check.due("NEEDS", 1188, y.person(0, 4));
        y.forget(11);
        Check.due("none on a forgotten one", -1, y.soon(0));
    }

    private static void ringOfTwelve() {
        Check.sentence(26, "back on themselves, as bits");
        PutOffParade x = full();
        for (int d = 1; d < 12; d++) {
            x.lean(d, d - 1);
        }
        x.lean(0, 11);
        Check.due("of all", 4095, x.ring());
        for (int d = 0; d < 12; d++) {
            Check.due("before(" + d + ")", 4095, x.before(d));
            Check.due("after(" + d + ")", 4095, x.after(d));
            Check.due("depth(" + d + ")", 12, x.depth(d));
            Check.due("soon(" + d + ")", -1, x.soon(d));
        }
        Check.due("LONGEST", 0, x.longest());
        Check.due("YOUNG", -1, x.young(10));
        Check.due("ALL", -1, x.all());
        Check.due("DO", 4095, x.does(78, false));
        Check.due("a part of the RING", 0, x.does(77, false));
        x.lean(0, 10);
        Check.due("of all but the last one", 2047, x.ring());
        Check.due("it LEANS on the RING", -1, x.soon(11));
        Check.due("BEFORE it", 2047, x.before(11));
    }

    private static void likeTwelve() {
        Check.sentence(49, "pairs of waiting DUTIES of like LEFT and AGE: how many");
        String twelve = "duty of 0 takes 2;".repeat(11) + "duty of 0 takes 2";
        PutOffParade x = Told.of("person at 0 free 0;" + twelve);
        Check.due("of twelve", 66, x.alike());
        Check.due("of none", 0, full().alike());
        Check.due("PASSES of like ones", 24, x.duty(0, 10));
        Check.due("PLACE of the last one", 11, x.duty(11, 9));
        Check.due("all of one PERSON", 1, x.most());
        Check.sentence(37, "12 times that of the first one and that of the second one");
        PutOffParade y = Told.of("person at 0 free 0;person at 0 free 1;" + "duty of 0 takes 3;".repeat(10) + "duty of 0 takes 1;duty of 1 takes 9");
        for (int d = 0; d < 10; d++) {
            y.forget(d);
        }
        Check.due("10 and 11", 131, y.swap(0, 1));
        Check.due("11 and 10", 142, y.swap(1, 0));
        PutOffParade z = full();
        for (int d = 5; d < 12; d += 5) {
            z.forget(d);
        }
        Check.due("the GAP at 5", 5, z.gap());
        Check.due("MISSED at 5 and 10", 1056, z.missed());
        Check.due("WORST", 11, z.worst());
    }

    private static void daysOfAll() {
        Check.sentence(44, "the first N (0 to 90) AHEAD by which it is done");
        PutOffParade x = full();
        int[] due = {1, 1, 1, 1, 1, 1, 8, 5, 4, 4, 4, 3};
        for (int d = 0; d < 12; d++) {
            Check.due("done(" + d + ")", due[d], x.done(d));
        }
        Check.sentence(45, "AHEAD by which no DUTY is waiting");
        Check.due("all()", 8, x.all());
        Check.due("HELP of the first one", 0, x.help());
        Check.due("CRUX is its longer one", 6, x.crux());
        Check.due("SICK of the last one", 1000, x.sick(5));
        Check.due("LEFT of the last one", 6, x.ahead(11, 2, 0));
        Check.due("STATE of the last one", 1, x.ahead(11, 3, 2));
        Check.due("done in three DAYS", 2111, x.trial(3, true));
        Check.due("SHAME in three DAYS", 6 + 7 + 8 + 9 + 10, x.trial(3, false));
        Check.due("SPAN of three DAYS", 40, x.span(3, true));
        Check.due("done by days", 12, x.days(8));
        Check.due("all are done", 4095, x.count(10));
        Check.due("rows of THE LOG", 6, x.count(13));
        Check.due("the oldest is the latest", 11, x.log(0, 1));
    }

    private static void fourteenLines() {
        Check.sentence(4, "LINE { ; LINE }, at most 14");
        PutOffParade x = new PutOffParade();
        Check.due("13", 1, Told.street(x, "ill 1;".repeat(12) + "ill 13"));
        Check.due("ILL", 13, x.count(6));
        Check.due("14", 2, Told.street(x, "ill 1;".repeat(13) + "ill 14"));
        Check.due("ILL", 14, x.count(6));
        Told.wrongStreet(x, "ill 1;".repeat(14) + "|ill 15");
        Told.wrongStreet(x, "ill 1;".repeat(14) + "|");
        Told.wrongStreet(x, "ill 1;".repeat(14) + "|;");
        Check.due("ILL", 14, x.count(6));
        Check.due("14 of two kinds", 3, Told.street(x, "person at 1 free 1;person at 1 free 1;" + "duty of 1 takes 1;".repeat(11) + "duty of 1 takes 1"));
    }

    private static void twelveLines() {
        Check.sentence(5, "LINE { ; LINE }, at most 12");
        PutOffParade x = Told.of("person at 0 free 0;duty of 0 takes 5;duty of 0 takes 5 age 20");
        Check.due("11", 11, Told.law(x, "grow 1;".repeat(10) + "grow 1"));
        Check.due("12", 12, Told.law(x, "grow 1;".repeat(11) + "grow 1"));
        Check.due("count(3)", 12, x.count(3));
        Told.wrongLaw(x, "grow 1;".repeat(12) + "|grow 1");
        Told.wrongLaw(x, "grow 1;".repeat(12) + "|");
        Check.due("count(3)", 12, x.count(3));
        Check.due("GROWS", 12, x.duty(0, 7));
        Check.due("12 with conditions", 12, Told.law(x, "grow 1 if old;".repeat(5) + "shame 2 if old;".repeat(3) + "ease 1 if old;".repeat(3) + "grow 50 if old"));
        Check.due("GROWS if old", 55, x.duty(1, 7));
        Check.due("SHAMES if old", 23, x.duty(1, 8));
        Check.due("GROWS if not", 0, x.duty(0, 7));
        Check.due("SHAMES if not", 0, x.duty(0, 8));
        PutOffParade y = Told.of("person at 0 free 0;duty of 0 takes 5 age 99", "shame 60;".repeat(11) + "shame 60");
        Check.due("SHAMES by all", 819, y.duty(0, 8));
        Told.law(y, "ease 60;".repeat(11) + "ease 60");
        Check.due("eased by all", 0, y.duty(0, 8));
    }

    private static void twelveTexts() {
        Check.sentence(4, "is told in texts (at most 12, one behind another)");
        PutOffParade x = new PutOffParade();
        for (int n = 1; n <= 12; n++) {
            Check.due("text " + n, n, Told.street(x, "ill " + n));
        }
        Check.due("twelve", 12, x.count(2));
        Check.sentence(4, "UnsupportedOperationException: there are 12");
        Told.law(x, "shame 3");
        String ahead = Seen.street(x);
        Told.text(x, "ill 13");
        Check.refused("text 13", UnsupportedOperationException.class, x::street);
        Check.due("nothing of it stays", ahead, Seen.street(x));
        Check.due("its TAPE is used up", 0, Seen.tape(x));
        Check.due("it has no wrong byte", -1, x.fault());
        Told.wrongStreet(x, "ill 13|:");
        Check.due("nothing of it stays", ahead, Seen.street(x));
        Check.due("a law is none of them", 1, Told.law(x, "shame 4"));
        Check.due("twelve", 12, x.count(2));
    }

    private static void sixtyRows() {
        Check.sentence(54, "the latest 60 floats: MONTH, the DUTY, its place in THE PARADE (from 0 on), what it SHAMES by then");
        PutOffParade x = full();
        for (int p = 0; p < 6; p++) {
            x.free(p, 0);
        }
        x.days(90);
        x.days(31);
        Check.due("five parades of twelve", 60, x.count(13));
        for (int ago = 0; ago < 60; ago++) {
            int month = 4 - ago / 12;
            int duty = 11 - ago % 12;
            Check.due("MONTH " + ago + " ago", month, x.log(ago, 0));
            Check.due("DUTY " + ago + " ago", duty, x.log(ago, 1));
            Check.due("its place " + ago + " ago", duty, x.log(ago, 2));
            Check.due("what it SHAMED by " + ago + " ago", duty + month, x.log(ago, 3));
        }
        Check.due("60 ago", -1, x.log(60, 0));
        x.call(11);
        x.days(30);
        Check.due("eleven more", 60, x.count(13));
        Check.due("the first one is the last of its parade", 11, x.log(59, 1));
        Check.due("in its MONTH", 0, x.log(59, 0));
        Check.due("then comes the next one", 1, x.log(58, 0));
        Check.due("rows of the done one", 5, x.led(11, false));
        Check.due("its latest MONTH", 4, x.led(11, true));
        Check.due("rows of another one", 5, x.led(0, false));
        Check.due("its latest MONTH", 5, x.led(0, true));
    }

    private static PutOffParade fullOfRows() {
        PutOffParade x = full();
        x.free(5, 0);
        x.days(90);
        x.days(90);
        return x;
    }

    private static void rowsComeBack() {
        Check.sentence(56, "all is as ahead of it");
        PutOffParade x = fullOfRows();
        Check.due("rows", 17, x.count(13));
        x.forget(5);
        x.recall(5);
        for (int i = 0; i < 5; i++) {
            x.days(90);
        }
        Check.due("rows", 47, x.count(13));
        for (int i = 0; i < 7; i++) {
            x.undo();
        }
        Check.due("as ahead of all", Seen.street(fullOfRows()), Seen.street(x));
        Check.sentence(58, "THE IMAGE (one) of all may be kept, and gone back to");
        x.image();
        for (int i = 0; i < 20; i++) {
            x.days(90);
        }
        Check.due("rows", 60, x.count(13));
        x.back();
        Check.due("rows are back", 17, x.count(13));
        Check.due("the latest MONTH", 5, x.log(0, 0));
        Check.due("the first MONTH", 0, x.log(16, 0));
    }

    private static void deepest() {
        Check.sentence(5, "( and not within one another at most 6 deep");
        PutOffParade x = Told.of("person at 0 free 0;duty of 0 takes 5 age 20");
        Told.law(x, "grow 1 if ((((((old))))));grow 2 if not not not not not not old;grow 4 if not (not (((old))));grow 8 if (not (not (not old)));"
            + "grow 16 if not not not ((not ready));grow 32 if not not not (((ready)))");
        Check.due("GROWS", 23, x.duty(0, 7));
        String[] right = {"(old and (old and (old and (old and (old and (1 < 2 and 1 + 1 < 1 + 1 + 1))))))",
            "1 > 2 or (old and (1 > 2 or (old and (1 > 2 or (old and 1 + 1 > 1)))))", "old and (1 > 2 or not (1 > 2 or not (old and (1 + 1 + 1 > 2))))"};
        for (String condition : right) {
            Told.law(x, "grow 7 if " + condition);
            Check.due("grow 7 if " + condition, 7, x.duty(0, 7));
        }
        String sixDeep = "((((((old))))))";
        Told.law(x, "grow 7 if " + sixDeep + (" and " + sixDeep).repeat(18));
        Check.due("six deep, again and again", 7, x.duty(0, 7));
        Told.wrongLaw(x, "grow 7 if " + sixDeep + " and ((((((|(old)))))))");
        Told.wrongLaw(x, "grow 7 if ((((((|not old))))))");
        Check.due("the law stays", 7, x.duty(0, 7));
    }

    private static void lastCall() {
        Check.sentence(1, "An object is used for at most 512 calls after it has been made");
        PutOffParade x = new PutOffParade();
        int calls = 0;
        while (calls < 511) {
            x.days(1);
            calls++;
        }
        Check.due("the last one", 17, x.count(5));
        PutOffParade y = new PutOffParade();
        for (int call = 1; call < 512; call++) {
            y.seed(call);
        }
        Check.due("the last one", 511, y.seed(512));
        PutOffParade z = Told.of("person at 0 free 0;duty of 0 takes 1");
        for (int call = 6; call < 512; call++) {
            Check.due("call " + call, Math.min(99, call - 5), z.put(0));
        }
        Check.due("the last one", true, z.undo());
    }

    private static void dearestSum() {
        Check.sentence(59, "12 SHAME of all waiting together");
        PutOffParade x = Told.of("person at 0 free 0;price 50;" + "duty of 0 takes 1 age 99;".repeat(11) + "duty of 0 takes 1 age 99", "shame 60;".repeat(11) + "shame 60");
        Check.due("of twelve", 12 * 819, x.count(12));
        Check.due("SHARE", 100, x.person(0, 5));
        Check.due("DO", 0, x.does(12, true));
        Check.due("DO in 11", 819, x.does(11, true));
        Check.due("TRIAL", 12 * 819, x.trial(90, false));
        Check.due("SPONSOR", 12 * (50 * 99 - 1), x.sponsor());
    }
}
