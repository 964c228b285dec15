/** Sentences from HELP to THE IMAGE that name a boundary: just below, at, and just above it. */
public final class ForecastBoundTest {
    private static final String P = "person at 0 free 1;";

    public static void main(String[] args) {
        helpOfNine();
        helpOfSeveral();
        crux();
        sick();
        done();
        all();
        ahead();
        trial();
        trialOfNow();
        span();
        led();
        log();
        daysOfOneCall();
        twelveActs();
        aheadOfTheAct();
        textsForgetActs();
        oneImage();
        imageOfAll();
        Check.close("ForecastBoundTest", 16, 44, 45, 46, 47, 48, 50, 51, 52, 53, 54, 56, 57, 58);
    }

    private static void helpOfNine() {
        Check.sentence(46, "the PERSON of whom one FREE hour more (9 at most) makes ALL the soonest");
        Check.due("from 8 to 9", 0, Told.of("person at 0 free 8;duty of 0 takes 9").help());
        Check.due("from 9 to 9", -1, Told.of("person at 0 free 9;duty of 0 takes 10").help());
        Check.due("from 0 to 1", 0, Told.of("person at 0 free 0;duty of 0 takes 90").help());
        Check.due("from 0 to 1, but too late", -1, Told.of("person at 0 free 0;duty of 0 takes 91").help());
        Check.due("from 1 to 2, in time then", 0, Told.of("person at 0 free 1;duty of 0 takes 91").help());
        PutOffParade x = Told.of("person at 0 free 8;duty of 0 takes 9");
        x.help();
        Check.due("FREE stays", 8, x.person(0, 1));
    }

    private static void helpOfSeveral() {
        Check.sentence(46, "(of several the least; none, if it is no sooner by any)");
        String three = "person at 0 free 1;person at 0 free 1;person at 0 free 1;";
        Check.due("none is waiting", -1, Told.of("person at 0 free 1;person at 0 free 1").help());
        Check.due("one LEANS on the other", 0, Told.of(three + "duty of 0 takes 4;duty of 1 takes 4 on 0").help());
        Check.due("the second one makes it sooner", 1, Told.of(three + "duty of 0 takes 2;duty of 1 takes 6 on 0").help());
        Check.due("two have as much", -1, Told.of(three + "duty of 1 takes 4;duty of 2 takes 4").help());
        Check.due("the last one has more", 2, Told.of(three + "duty of 1 takes 4;duty of 2 takes 5").help());
        Check.due("without PEOPLE", -1, new PutOffParade().help());
    }

    private static void crux() {
        Check.sentence(47, "the waiting DUTY by doing which at once (whatever it LEANS on) ALL is the soonest");
        PutOffParade x = Told.of(P + "duty of 0 takes 2;duty of 0 takes 4 on 0;duty of 0 takes 3");
        Check.due("it LEANS on one that is waiting", 1, x.crux());
        Check.due("LEFT stays", 4, x.duty(1, 1));
        x.forget(0);
        Check.due("it LEANS on one that is forgotten", 1, x.crux());
        x.forget(1);
        Check.due("waiting ones alone", 2, x.crux());
        Check.sentence(47, "(of several the least; none, if by none it is sooner)");
        Check.due("two are alike", 0, Told.of(P + "duty of 0 takes 3;duty of 0 takes 3").crux());
        Check.due("two PEOPLE", -1, Told.of("person at 0 free 1;person at 0 free 1;duty of 0 takes 3;duty of 1 takes 3").crux());
        Check.due("two can never be done", -1, Told.of("person at 0 free 0;duty of 0 takes 3;duty of 0 takes 3").crux());
        Check.due("one can never be done", 0, Told.of("person at 0 free 0;duty of 0 takes 3").crux());
        Check.due("none is waiting", -1, Told.of("person at 0 free 1").crux());
    }

    private static void sick() {
        Check.sentence(48, "by how many DAYS ALL would be later, if that one had no FREE hour");
        PutOffParade y = Told.of("person at 0 free 0;person at 0 free 1;person at 0 free 3;duty of 1 takes 5");
        Check.due("who has none and has nothing to do", 0, y.sick(0));
        Check.due("who has nothing to do", 0, y.sick(2));
        Check.due("FREE stays", 3, y.person(2, 1));
        Check.sentence(48, "(NONE, if ALL is none now; 1000, if just then)");
        PutOffParade x = Told.of("person at 0 free 1;person at 0 free 1;duty of 0 takes 90;duty of 0 takes 1;forgotten 1");
        Check.due("none just then", 1000, x.sick(0));
        Check.due("who has nothing to do", 0, x.sick(1));
        x.recall(1);
        Check.due("ALL is none now", -1, x.sick(0));
        Check.due("ALL is none now, who has nothing to do", -1, x.sick(1));
        x.forget(0);
        x.forget(1);
        Check.due("none is waiting", 0, x.sick(0));
    }

    private static void done() {
        Check.sentence(44, "the first N (0 to 90) AHEAD by which it is done; none");
        PutOffParade x = Told.of(P + "person at 0 free 0;duty of 0 takes 1;duty of 0 takes 88;duty of 0 takes 1;duty of 0 takes 1;duty of 1 takes 1;duty of 0 takes 1;forgotten 5;ill 100");
        int[] due = {1, 89, 90, -1, -1, -1};
        for (int d = 0; d < due.length; d++) {
            Check.due("done(" + d + ")", due[d], x.done(d));
        }
        x.call(0);
        Check.due("it is done now", 0, x.done(0));
        Check.due("one DAY sooner by it", 90, x.done(3));
    }

    private static void all() {
        Check.sentence(45, "the first N (0 to 90) AHEAD by which no DUTY is waiting; none");
        Check.due("none now", 0, Told.of(P + "duty of 0 takes 9;forgotten 0").all());
        Check.due("one hour", 1, Told.of(P + "duty of 0 takes 1;ill 100").all());
        Check.due("89 hours", 89, Told.of(P + "duty of 0 takes 89").all());
        Check.due("90 hours", 90, Told.of(P + "duty of 0 takes 90").all());
        Check.due("91 hours", -1, Told.of(P + "duty of 0 takes 91").all());
        Check.due("nobody works", -1, Told.of("person at 0 free 0;duty of 0 takes 1").all());
        Check.due("without DUTIES", 0, new PutOffParade().all());
    }

    private static void ahead() {
        Check.sentence(50, "AHEAD of a DUTY what 0 LEFT, 1 AGE, 2 the STATE");
        PutOffParade x = Told.of(P + "duty of 0 takes 2 age 98;day 29");
        int[][] due = {{2, 98, 0}, {1, 98, 0}, {0, 98, 1}, {0, 98, 1}};
        for (int n = 0; n < due.length; n++) {
            for (int what = 0; what < 3; what++) {
                Check.due("ahead(0, " + n + ", " + what + ")", due[n][what], x.ahead(0, n, what));
            }
        }
        Check.element("what 3", () -> x.ahead(0, 0, 3));
        Check.element("what -1", () -> x.ahead(0, 0, -1));
    }

    private static void trial() {
        Check.sentence(51, "TRIAL of N DAYS (0 to 90) from now (draws, too; nothing stays)");
        PutOffParade x = Told.of(P + "duty of 0 takes 99;ill 100", "shame 60 if left > 98");
        Check.due("0 DAYS", 60, x.trial(0, false));
        Check.due("90 DAYS, ill on each", 63, x.trial(90, false));
        Check.argument("91 DAYS", () -> x.trial(91, false));
        Check.argument("-1 DAYS", () -> x.trial(-1, true));
        Check.due("nothing is done", 0, x.trial(90, true));
        PutOffParade y = Told.of(P + "duty of 0 takes 40;ill 50");
        String ahead = Seen.street(y);
        int shame = y.trial(90, false);
        int done = y.trial(90, true);
        Check.due("nothing stays", ahead, Seen.street(y));
        y.days(90);
        Check.due("SHAME as it comes by the same draws", y.count(12), shame);
        Check.due("DUTIES done as they come by the same draws", y.count(10), done);
        PutOffParade z = Told.of(P + "duty of 0 takes 90;duty of 0 takes 1");
        Check.due("done in 89", 0, z.trial(89, true));
        Check.due("done in 90", 1, z.trial(90, true));
    }

    private static void trialOfNow() {
        Check.sentence(51, "SHAME of all waiting together then; DUTIES done then, as bits");
        PutOffParade x = Told.of(P + "duty of 0 takes 1 age 5;duty of 0 takes 1 age 7;duty of 0 takes 1 age 9;forgotten 2");
        x.call(0);
        Check.due("SHAME now", 7, x.trial(0, false));
        Check.due("done now", 1, x.trial(0, true));
        Check.due("SHAME then", 0, x.trial(1, false));
        Check.due("done then", 3, x.trial(1, true));
    }

    private static void span() {
        Check.sentence(52, "the least and the greatest SHAME so from SEED 1, 2, .. 6");
        PutOffParade x = Told.of(P + "duty of 0 takes 99;ill 60", "shame 1 if left > 98;shame 1 if left > 97;shame 1 if left > 96;shame 1 if left > 95;shame 1 if left > 94");
        for (int n = 0; n <= 6; n++) {
            int least = Integer.MAX_VALUE;
            int greatest = -1;
            for (int seed = 1; seed <= 6; seed++) {
                x.seed(seed);
                least = Math.min(least, x.trial(n, false));
                greatest = Math.max(greatest, x.trial(n, false));
            }
            x.seed(7);
            Check.due("the least of " + n, least, x.span(n, false));
            Check.due("the greatest of " + n, greatest, x.span(n, true));
        }
        Check.due("SEED stays", 7, x.seed(7));
        Check.due("0 DAYS", 5, x.span(0, false));
        Check.due("90 DAYS", 3, x.span(90, true));
        Check.argument("91 DAYS", () -> x.span(91, false));
        Check.argument("-1 DAYS", () -> x.span(-1, true));
        spanOfIllOnes();
    }

    /** The last of so many PEOPLE has a DUTY of an hour, and by each ILL the seeds from 1 to 6 tell whether it is done. */
    private static void spanOfIllOnes() {
        for (int ahead = 0; ahead < 6; ahead++) {
            for (int ill = 0; ill <= 100; ill++) {
                int illOnes = 0;
                for (int seed = 1; seed <= 6; seed++) {
                    illOnes += drawBehind(seed, ahead) < ill ? 1 : 0;
                }
                PutOffParade x = Told.of("person at 0 free 0;".repeat(ahead) + P + "duty of " + ahead + " takes 1;ill " + ill, "shame 9");
                Check.due("the least of " + illOnes + " ill ones", illOnes == 6 ? 9 : 0, x.span(1, false));
                Check.due("the greatest of " + illOnes + " ill ones", illOnes > 0 ? 9 : 0, x.span(1, true));
            }
        }
    }

    private static int drawBehind(int seed, int draws) {
        int then = seed;
        for (int i = 0; i <= draws; i++) {
            then = then * 1103515245 + 12345;
        }
        return (then >> 16 & 32767) % 100;
    }

    private static void led() {
        Check.sentence(53, "how many rows of THE LOG are of a DUTY; the MONTH of the latest (none)");
        PutOffParade x = Told.of(P + "duty of 0 takes 31;duty of 0 takes 99;duty of 0 takes 9;forgotten 2;month 5");
        Check.due("no row", 0, x.led(0, false));
        Check.due("no MONTH", -1, x.led(0, true));
        x.days(31);
        Check.due("one row", 1, x.led(0, false));
        Check.due("its MONTH", 5, x.led(0, true));
        Check.due("two rows", 2, x.led(1, false));
        Check.due("the latest MONTH", 6, x.led(1, true));
        Check.due("no row of a forgotten one", 0, x.led(2, false));
        Check.due("no MONTH of a forgotten one", -1, x.led(2, true));
    }

    private static void log() {
        Check.sentence(54, "THE LOG so many ago (0 the latest)");
        PutOffParade x = Told.of("person at 0 free 0;duty of 0 takes 1;duty of 0 takes 1 age 4;month 3");
        x.days(1);
        Check.due("0 ago", 1, x.log(0, 1));
        Check.due("1 ago", 0, x.log(1, 1));
        Check.sentence(54, "NONE without. NoSuchElementException: another what");
        for (int ago : new int[] {2, 60, -1, Integer.MAX_VALUE, Integer.MIN_VALUE}) {
            Check.due(ago + " ago", -1, x.log(ago, 0));
        }
        Check.element("what 4", () -> x.log(0, 4));
        Check.element("what -1", () -> x.log(0, -1));
        Check.due("what 3", 4, x.log(0, 3));
        Check.due("what 0", 3, x.log(0, 0));
    }

    private static void daysOfOneCall() {
        Check.sentence(16, "So many DAYS more (1 to 90): how many DUTIES were done in these");
        PutOffParade x = Told.of(P + "duty of 0 takes 1;duty of 0 takes 89;duty of 0 takes 1");
        Check.argument("0", () -> x.days(0));
        Check.argument("91", () -> x.days(91));
        Check.due("1", 1, x.days(1));
        Check.due("90", 2, x.days(90));
        Check.due("nothing more", 0, x.days(90));
        Check.sentence(56, "DAYS of one call are one)");
        Check.due("three acts", 3, x.count(14));
        x.undo();
        x.undo();
        Check.due("90 DAYS ahead", 89, x.duty(1, 1));
        Check.due("DAY", 2, x.count(4));
        Check.due("done", 1, x.count(10));
    }

    private static void twelveActs() {
        Check.sentence(56, "(12 are remembered");
        for (int acts : new int[] {1, 11, 12, 13, 24, 25, 37, 60}) {
            PutOffParade x = Told.of("person at 0 free 0;duty of 0 takes 1");
            for (int act = 1; act <= acts; act++) {
                x.put(0);
                Check.due("remembered", Math.min(12, act), x.count(14));
            }
            int left = Math.min(12, acts);
            for (int undone = 1; undone <= left; undone++) {
                Check.due("UNDONE " + undone + " of " + acts, true, x.undo());
                Check.due("AGE ahead of it", acts - undone, x.duty(0, 2));
                Check.due("remembered yet", left - undone, x.count(14));
            }
            Check.due("no more of " + acts, false, x.undo());
            Check.due("AGE stays", acts - left, x.duty(0, 2));
            x.put(0);
            Check.due("one more", true, x.undo());
            Check.due("is all", false, x.undo());
        }
    }

    private static void aheadOfTheAct() {
        Check.sentence(56, "all is as ahead of it (but for the TAPE, fault(), THE IMAGE)");
        PutOffParade x = Told.of("person at 0 free 1;person at 5 free 0;duty of 0 takes 9 age 3;duty of 0 takes 2;duty of 0 takes 3 on 1;forgotten 1;ill 20", "shame 2");
        for (int act = 0; act < 8; act++) {
            PutOffParade y = Told.of("person at 0 free 1;person at 5 free 0;duty of 0 takes 9 age 3;duty of 0 takes 2;duty of 0 takes 3 on 1;forgotten 1;ill 20", "shame 2");
            Told.street(y, "pace 9");
            y.days(3);
            String ahead = Seen.street(y);
            int acts = y.count(14);
            act(y, act);
            Check.due("act " + act + " is remembered", acts + 1, y.count(14));
            y.seed(77);
            y.feed(1, 2, 3, 4, 5);
            Check.due("UNDONE", true, y.undo());
            Check.due("behind act " + act, ahead, Seen.street(y));
            Check.due("the TAPE stays", 20, Seen.tape(y));
        }
        Told.wrongLaw(x, "grow |99");
        x.image();
        x.put(0);
        Told.wrongLaw(x, "grow|");
        x.undo();
        Check.due("fault() stays", 4, x.fault());
        x.put(0);
        x.image();
        x.undo();
        Check.due("AGE", 3, x.duty(0, 2));
        Check.due("THE IMAGE stays", true, x.back());
        Check.due("AGE of THE IMAGE", 4, x.duty(0, 2));
    }

    private static void act(PutOffParade x, int n) {
        switch (n) {
            case 0: x.call(0); break;
            case 1: x.put(0); break;
            case 2: x.forget(0); break;
            case 3: x.recall(1); break;
            case 4: x.hand(0, 1); break;
            case 5: x.lean(0, 2); break;
            case 6: x.free(0, 7); break;
            default: x.days(90); break;
        }
    }

    private static void textsForgetActs() {
        Check.sentence(56, "A text, going back: none are remembered");
        PutOffParade x = Told.of("person at 0 free 0;duty of 0 takes 1");
        x.put(0);
        Told.street(x, "");
        Check.due("behind a street", false, x.undo());
        Check.due("none", 0, x.count(14));
        x.put(0);
        Told.law(x, "");
        Check.due("behind a law", false, x.undo());
        x.put(0);
        Check.due("no image, one does not go back", false, x.back());
        Check.due("one is remembered", 1, x.count(14));
        x.image();
        Check.due("one is remembered", 1, x.count(14));
        x.back();
        Check.due("one went back", false, x.undo());
        Check.due("AGE", 3, x.duty(0, 2));
        x.put(0);
        Told.wrongStreet(x, "|q");
        Told.wrongLaw(x, "|q");
        Check.due("a wrong text is none", true, x.undo());
        x.put(0);
        x.whose();
        x.ask();
        Check.due("KERBS are none", true, x.undo());
    }

    private static void oneImage() {
        Check.sentence(58, "true; false, and nothing happens, if none was kept");
        PutOffParade x = Told.of("person at 0 free 0;duty of 0 takes 1");
        x.put(0);
        String ahead = Seen.street(x);
        Check.due("none was kept", false, x.back());
        Check.due("nothing happens", ahead, Seen.street(x));
        Check.sentence(57, "THE IMAGE (one) of all may be kept");
        x.image();
        x.put(0);
        x.image();
        x.put(0);
        Check.due("one goes back", true, x.back());
        Check.due("to the later one", 2, x.duty(0, 2));
        Check.due("one goes back", true, x.back());
        Check.due("to the same", 2, x.duty(0, 2));
        PutOffParade y = new PutOffParade();
        y.image();
        Told.street(y, "person at 0 free 0");
        Check.due("an image of nobody", true, y.back());
        Check.due("PEOPLE", 0, y.count(0));
        Check.due("texts", 0, y.count(2));
    }

    private static void imageOfAll() {
        Check.sentence(58, "gone back to (but for the TAPE, fault() and THE IMAGE itself)");
        PutOffParade x = Told.of("person at 0 free 1;duty of 0 takes 80 age 3;ill 20", "shame 2;grow 4 if ready");
        x.days(40);
        x.undo();
        x.days(31);
        Told.law(x, "shame 3;grow 4 if ready");
        x.image();
        String kept = Seen.street(x);
        Told.street(x, "person at 3 free 3;duty of 1 takes 1;ill 50;pace 5;price 5;day 5;month 5;forgotten 0");
        Told.law(x, "ease 60");
        x.days(90);
        Told.wrongStreet(x, "ill|");
        x.feed(1, 2, 3, 4, 5);
        Check.due("back", true, x.back());
        Check.due("all is as it was kept", kept, Seen.street(x));
        Check.due("fault() stays", 3, x.fault());
        Check.due("the TAPE stays", 20, Seen.tape(x));
        Told.law(x, "ease 60");
        Check.due("back once more", true, x.back());
        Check.due("as it was kept", kept, Seen.street(x));
    }
}
