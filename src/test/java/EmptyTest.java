/** The empty case: no PEOPLE, no DUTIES, none waiting, no text, no LAW, an empty TAPE, no row, nothing to undo, no image. */
public final class EmptyTest {
    private static final int[] FACE_OF_NOTHING = {0, 0, 0, -1, 1, 0, 0, 2, 3, 0, 0, 0, 0, 0, 0};

    public static void main(String[] args) {
        streetWithoutPeople();
        noPeople();
        noPeopleToAskFor();
        noDuties();
        noDutiesToAskFor();
        noneWaiting("all are done", "person at 3 free 9;duty of 0 takes 1;duty of 0 takes 1 age 9", false, true);
        noneWaiting("all are forgotten", "person at 3 free 9;duty of 0 takes 1;duty of 0 takes 1 age 9;forgotten 0;forgotten 1", true, false);
        noneWaiting("one is done and one is forgotten", "person at 3 free 9;duty of 0 takes 1;duty of 0 takes 1 age 9;forgotten 1", true, true);
        noText();
        noLaw();
        emptyTape();
        noRow();
        nothingToUndo();
        noImage();
        setsOfNone();
        Check.close("EmptyTest", 1, 3, 4, 5, 8, 12, 16, 17, 32, 40, 46, 53, 54, 56, 58, 59);
    }

    private static void counts(String what, PutOffParade x, int... due) {
        for (int i = 0; i < due.length; i++) {
            Check.due("count(" + i + ") " + what, due[i], x.count(i));
        }
    }

    private static void streetWithoutPeople() {
        Check.sentence(1, "A street without PEOPLE");
        PutOffParade x = new PutOffParade();
        counts("of a new object", x, FACE_OF_NOTHING);
        Check.due("its TAPE", 0, Seen.tape(x));
        Check.due("fault()", -1, x.fault());
        Check.due("SEED", 1, x.seed(1));
        Check.due("ACTS", false, x.undo());
        Check.due("THE IMAGE", false, x.back());
    }

    /** What is worked out of waiting DUTIES, when there are none. */
    private static void nothingGoesBy(String when, PutOffParade x) {
        Check.due("parade(0) " + when, -1, x.parade(0));
        Check.due("can() " + when, 0, x.can());
        Check.due("crowd() " + when, 0, x.crowd(0, 15, 0));
        Check.due("most() " + when, 0, x.most());
        Check.due("does(99, false) " + when, 0, x.does(99, false));
        Check.due("does(0, true) " + when, 0, x.does(0, true));
        Check.due("longest() " + when, 0, x.longest());
        Check.due("ring() " + when, 0, x.ring());
        Check.due("young(0) " + when, 0, x.young(0));
        Check.due("older(0) " + when, 0, x.older(0));
        Check.due("gap() " + when, -1, x.gap());
        Check.due("missed() " + when, 0, x.missed());
        Check.due("sponsor() " + when, 0, x.sponsor());
        Check.due("worst() " + when, -1, x.worst());
        Check.due("all() " + when, 0, x.all());
        Check.due("help() " + when, -1, x.help());
        Check.due("crux() " + when, -1, x.crux());
        Check.due("alike() " + when, 0, x.alike());
        Check.due("trial(90, false) " + when, 0, x.trial(90, false));
        Check.due("span(90, false) " + when, 0, x.span(90, false));
        Check.due("span(90, true) " + when, 0, x.span(90, true));
        Check.due("DUTIES waiting " + when, 0, x.count(9));
        Check.due("READY " + when, 0, x.count(11));
        Check.due("SHAME " + when, 0, x.count(12));
        int rows = x.count(13);
        Check.due("days(60) " + when, 0, x.days(60));
        Check.due("no row " + when, rows, x.count(13));
    }

    private static void noPeople() {
        Check.sentence(40, "IDLE: the PERSON of the least LOAD (of several the least; none)");
        Check.due("without PEOPLE", -1, new PutOffParade().idle());
        Check.sentence(32, "PEOPLE who stand there by all of these, as bits");
        PutOffParade x = new PutOffParade();
        Check.due("without PEOPLE, nothing told", 0, x.whose());
        Told.bytes(x, 0, 15);
        Check.due("without PEOPLE, all told", 0, x.whose());
        Told.bytes(x, 0, 15);
        Check.due("nobody to ask for", -1, x.ask());
        Check.sentence(46, "none, if it is no sooner by any");
        nothingGoesBy("without PEOPLE", x);
        Check.due("odds without PEOPLE", 10000, x.odds(0, 0));
    }

    private static void noPeopleToAskFor() {
        Check.sentence(16, "IndexOutOfBoundsException: there is no such PERSON, DUTY, KERB");
        PutOffParade x = new PutOffParade();
        Check.index("person", () -> x.person(0, 0));
        Check.index("duty", () -> x.duty(0, 0));
        Check.index("call", () -> x.call(0));
        Check.index("put", () -> x.put(0));
        Check.index("forget", () -> x.forget(0));
        Check.index("recall", () -> x.recall(0));
        Check.index("hand", () -> x.hand(0, 0));
        Check.index("lean", () -> x.lean(0, -1));
        Check.index("free", () -> x.free(0, 0));
        Check.index("greets", () -> x.greets(0, 0));
        Check.index("where", () -> x.where(0, 0));
        Check.index("soon", () -> x.soon(0));
        Check.index("before", () -> x.before(0));
        Check.index("after", () -> x.after(0));
        Check.index("depth", () -> x.depth(0));
        Check.index("swap", () -> x.swap(0, 0));
        Check.index("rests", () -> x.rests(0, 0, 0));
        Check.index("spare", () -> x.spare(0, 1));
        Check.index("done", () -> x.done(0));
        Check.index("sick", () -> x.sick(0));
        Check.index("ahead", () -> x.ahead(0, 0, 0));
        Check.index("led", () -> x.led(0, false));
        Told.wrongStreet(x, "duty of |0 takes 1");
        Told.wrongStreet(x, "forgotten |0");
        counts("behind all of these", x, FACE_OF_NOTHING);
    }

    private static void noDuties() {
        Check.sentence(17, "THE PARADE: the k-th; NONE");
        PutOffParade x = Told.of("person at 3 free 4;person at 5 free 0");
        nothingGoesBy("without DUTIES", x);
        Check.due("OWNED", 0, x.person(0, 2));
        Check.due("LOAD", 0, x.person(0, 3));
        Check.due("NEEDS by FREE 4", 0, x.person(0, 4));
        Check.due("NEEDS by FREE 0", 0, x.person(1, 4));
        Check.due("SHARE", 0, x.person(0, 5));
        Check.due("IDLE", 0, x.idle());
        Check.due("SWAP", -1, x.swap(0, 1));
        Check.due("SICK", 0, x.sick(0));
        Check.due("LOST", 0, x.lost());
        Check.due("done", 0, x.trial(0, true));
        Check.due("READY", 0, x.count(11));
    }

    private static void noDutiesToAskFor() {
        Check.sentence(8, "there is no such PERSON, DUTY, KERB");
        PutOffParade x = Told.of("person at 3 free 4;person at 5 free 0");
        Check.index("duty", () -> x.duty(0, 0));
        Check.index("call", () -> x.call(0));
        Check.index("hand", () -> x.hand(0, 0));
        Check.index("lean", () -> x.lean(0, 0));
        Check.index("rests", () -> x.rests(0, 1, 0));
        Check.index("done", () -> x.done(0));
        Check.index("ahead", () -> x.ahead(0, 0, 0));
        Check.index("led", () -> x.led(0, true));
        Told.wrongStreet(x, "person at 1 free 1;duty of 0 takes 1 on |0");
        Told.wrongStreet(x, "forgotten |0");
    }

    private static void noneWaiting(String when, String street, boolean forgotten, boolean done) {
        Check.sentence(17, "waiting DUTIES by AGE, the least first");
        PutOffParade x = Told.of(street);
        if (done) {
            x.days(1);
        }
        nothingGoesBy(when, x);
        Check.due("LOAD " + when, 0, x.person(0, 3));
        Check.due("NEEDS " + when, 0, x.person(0, 4));
        Check.due("SHARE " + when, 0, x.person(0, 5));
        Check.due("OWNED " + when, 3, x.person(0, 2));
        Check.due("some are LOST " + when, forgotten, x.lost() != 0);
        Check.due("some are done " + when, done, x.count(10) != 0);
        for (int d = 0; d < 2; d++) {
            int duty = d;
            Check.due("PLACE " + when, -1, x.duty(d, 9));
            Check.due("PASSES " + when, 0, x.duty(d, 10));
            Check.due("GREETS " + when, -1, x.greets(d, 0));
            Check.due("WHERE " + when, -1, x.where(d, 0));
            Check.due("SOON " + when, 0, x.soon(d));
            Check.state("call " + when, () -> x.call(duty));
            Check.state("put " + when, () -> x.put(duty));
            Check.state("forget " + when, () -> x.forget(duty));
        }
        Check.sentence(12, "Remembered: AGE of it. IllegalStateException: it is not forgotten");
        if (forgotten) {
            Check.due("recall " + when, x.duty(1, 2), x.recall(1));
        } else {
            Check.state("recall " + when, () -> x.recall(1));
        }
    }

    private static void noText() {
        Check.sentence(4, "Uses the TAPE up: a text of THE STREET: how many texts there are");
        PutOffParade x = new PutOffParade();
        Check.due("none yet", 0, x.count(2));
        Check.due("an empty one is one", 1, x.street());
        Check.due("one", 1, x.count(2));
        Check.due("another one", 2, x.street());
        int[] due = {0, 0, 2, -1, 1, 0, 0, 2, 3, 0, 0, 0, 0, 0, 0};
        counts("of empty texts", x, due);
        Check.due("fault()", -1, x.fault());
    }

    private static void noLaw() {
        Check.sentence(59, "3 LINES of THE LAW (NONE without one)");
        PutOffParade x = Told.of("person at 3 free 0;duty of 0 takes 5 age 7;duty of 0 takes 5 age 20;day 30");
        Check.due("without one", -1, x.count(3));
        Check.due("GROWS", 0, x.duty(1, 7));
        Check.due("SHAMES by its AGE", 7, x.duty(0, 8));
        Check.due("SHAME of all", 27, x.count(12));
        x.days(2);
        Check.due("LEFT a month later", 5, x.duty(0, 1));
        Check.due("the row of THE LOG", 21, x.log(0, 3));
        Check.sentence(5, "Uses the TAPE up: THE LAW: how many LINES");
        Check.due("a law of no LINE", 0, x.law());
        Check.due("no LINE", 0, x.count(3));
        Check.due("GROWS", 0, x.duty(1, 7));
        Check.due("SHAMES by its AGE", 8, x.duty(0, 8));
    }

    private static void emptyTape() {
        Check.sentence(3, "false, and nothing happens, if it has fewer, or n is below 0");
        PutOffParade x = new PutOffParade();
        Check.due("end(0)", true, x.end(0));
        Check.due("end(1)", false, x.end(1));
        Check.due("end(-1)", false, x.end(-1));
        Check.due("end(400)", false, x.end(400));
        Check.due("its first 20", 20, x.feed(1, 2, 3, 4, 5));
        Check.due("end(0) of 20", true, x.end(0));
        Check.due("end(1) of none", false, x.end(1));
        Check.due("a street of none", 1, x.street());
        Check.due("a law of none", 0, x.law());
        Check.due("whose of none", 0, x.whose());
        Check.due("ask of none", -1, x.ask());
        Check.due("none yet", 0, Seen.tape(x));
    }

    private static void noRow() {
        Check.sentence(54, "NONE without");
        PutOffParade x = Told.of("person at 3 free 0;duty of 0 takes 5");
        for (int what = 0; what < 4; what++) {
            Check.due("log(0, " + what + ")", -1, x.log(0, what));
        }
        Check.element("another what", () -> x.log(0, 4));
        Check.due("rows", 0, x.count(13));
        Check.sentence(53, "LED: how many rows (month false), or the MONTH; NONE");
        Check.due("led(0, false)", 0, x.led(0, false));
        Check.due("led(0, true)", -1, x.led(0, true));
    }

    private static void nothingToUndo() {
        Check.sentence(56, "UNDONE: whether there was one");
        PutOffParade x = Told.of("person at 3 free 0;duty of 0 takes 5");
        String ahead = Seen.all(x);
        Check.due("of none", false, x.undo());
        Check.due("nothing happens", ahead, Seen.all(x));
        x.put(0);
        Check.due("of one", true, x.undo());
        Check.due("as it was", ahead, Seen.all(x));
        Check.due("of none again", false, x.undo());
        Check.due("nothing happens", ahead, Seen.all(x));
    }

    private static void noImage() {
        Check.sentence(58, "and nothing happens, if none was kept");
        PutOffParade x = Told.of("person at 3 free 0;duty of 0 takes 5", "shame 3");
        x.put(0);
        x.feed(1, 2, 3, 4, 5);
        String ahead = Seen.all(x);
        Check.due("none was kept", false, x.back());
        Check.due("nothing happens", ahead, Seen.all(x));
        Check.due("the act can be undone", true, x.undo());
    }

    private static void setsOfNone() {
        Check.sentence(16, "of none they count for nothing");
        PutOffParade x = Told.of("person at 3 free 4;duty of 0 takes 99;duty of 0 takes 99 on 0");
        Check.due("CAN", 0, x.can());
        Check.due("MOST", 0, x.most());
        Check.due("DO", 0, x.does(98, false));
        Check.due("RING", 0, x.ring());
        Check.due("BEFORE", 0, x.before(0));
        Check.due("AFTER", 0, x.after(1));
        Check.due("LOST", 0, x.lost());
        Check.due("MISSED", 0, x.missed());
        Check.due("done then", 0, x.trial(9, true));
        Check.due("done", 0, x.count(10));
        Told.bytes(x, 4, 15);
        Check.due("WHOSE", 0, x.whose());
        x.forget(0);
        x.forget(1);
        Check.due("waiting", 0, x.count(9));
        Check.due("READY", 0, x.count(11));
    }
}
