import java.util.NoSuchElementException;

/**
 * Each refused call: of several exceptions the one told first is thrown, and nothing is changed by it but
 * the TAPE, where it is used up, and fault(), where a text is read.
 */
public final class RefusedTest {
    interface Asked { long answer(PutOffParade x); }

    private static final Class<IndexOutOfBoundsException> INDEX = IndexOutOfBoundsException.class;
    private static final Class<IllegalArgumentException> ARGUMENT = IllegalArgumentException.class;
    private static final Class<IllegalStateException> STATE = IllegalStateException.class;
    private static final Class<NoSuchElementException> ELEMENT = NoSuchElementException.class;

    private static final int[] NO_DUTY = {-1, 6, 12, Integer.MIN_VALUE, Integer.MAX_VALUE};
    private static final int[] NO_PERSON = {-1, 3, 6, Integer.MIN_VALUE, Integer.MAX_VALUE};
    private static final int[] NO_KERB = {-1, 16, Integer.MIN_VALUE, Integer.MAX_VALUE};

    private static final String AHEAD = Seen.all(rich());
    private static final String STREET_AHEAD = Seen.street(rich());
    private static final String UNDONE = undone();
    private static final String BACK = back();

    public static void main(String[] args) {
        richAsItShouldBe();
        noSuchOne();
        noSuchKerb();
        numbersThatAreNone();
        hoursThatAreNone();
        bothAreOne();
        anotherWhat();
        itCannotBe();
        theOneToldFirst();
        theOneToldFirstOfActs();
        textsUseTheTapeUp();
        kerbsUseTheTapeUp();
        textBeyondTheTwelfth();
        falseAndNothingHappens();
        Check.close("RefusedTest", 2, 3, 4, 5, 7, 8, 9, 10, 11, 12, 13, 14, 15, 16, 19, 20, 21, 23, 24, 27, 28, 29, 30, 31, 32, 33, 37, 38, 42, 43, 44, 48, 50, 51, 52, 53,
            54, 56, 58);
    }

    /** DUTIES 0 and 1 are done, 2 can be done, 3 is not READY, 4 is forgotten, 5 has more LEFT than it PASSES. */
    private static PutOffParade rich() {
        PutOffParade x = Told.of(ShowTest.STREET, "grow 3 if ready;shame 7 if left > 3;ease 2 if day > 20;shame 1");
        x.days(3);
        x.seed(77);
        x.image();
        x.recall(5);
        x.forget(4);
        x.free(2, 1);
        x.put(2);
        Told.text(x, "ill");
        try {
            x.street();
        } catch (IllegalArgumentException e) {
            Told.text(x, "ill 33 ");
        }
        return x;
    }

    private static String undone() {
        PutOffParade x = rich();
        x.undo();
        return Seen.street(x);
    }

    private static String back() {
        PutOffParade x = rich();
        x.back();
        return Seen.street(x);
    }

    private static void refused(String what, Class<? extends RuntimeException> want, Asked call) {
        PutOffParade x = rich();
        Check.refused(what, want, () -> call.answer(x));
        Check.due("all behind " + what, AHEAD, Seen.all(x));
        x.undo();
        Check.due("what is undone behind " + what, UNDONE, Seen.street(x));
        x.back();
        Check.due("THE IMAGE behind " + what, BACK, Seen.street(x));
        x.street();
        Check.due("the TAPE behind " + what, 33, x.count(6));
    }

    private static void each(String what, int[] numbers, Class<? extends RuntimeException> want, java.util.function.IntFunction<Asked> call) {
        for (int number : numbers) {
            refused(what + " of " + number, want, call.apply(number));
        }
    }

    private static void richAsItShouldBe() {
        Check.sentence(9, "it is none of CAN");
        PutOffParade x = rich();
        Check.due("done", 3, x.count(10));
        Check.due("LOST", 16, x.lost());
        Check.due("READY", 36, x.count(11));
        Check.due("CAN", 4, x.can());
        Check.due("acts", 5, x.count(14));
        Check.due("rows", 3, x.count(13));
        Check.due("fault", 3, x.fault());
    }

    private static void noSuchOne() {
        Check.sentence(16, "IndexOutOfBoundsException: there is no such PERSON, DUTY, KERB");
        for (int number : new int[] {7, 15, 43, 48}) {
            Check.promise(number);
        }
        each("person", NO_PERSON, INDEX, p -> x -> x.person(p, 0));
        each("free", NO_PERSON, INDEX, p -> x -> x.free(p, 1));
        each("hand to", NO_PERSON, INDEX, p -> x -> x.hand(2, p));
        each("swap of one", NO_PERSON, INDEX, p -> x -> x.swap(p, 0));
        each("swap with one", NO_PERSON, INDEX, p -> x -> x.swap(0, p));
        each("rests of one", NO_PERSON, INDEX, p -> x -> x.rests(p, 0, 0));
        each("rests with one", NO_PERSON, INDEX, p -> x -> x.rests(0, p, 0));
        each("spare", NO_PERSON, INDEX, p -> x -> x.spare(p, 1));
        each("sick", NO_PERSON, INDEX, p -> x -> x.sick(p));
        for (int number : new int[] {8, 9, 10, 11, 12, 13, 14, 19, 20, 24, 27, 28, 29, 38, 44, 50, 53}) {
            Check.promise(number);
        }
        each("duty", NO_DUTY, INDEX, d -> x -> x.duty(d, 0));
        each("call", NO_DUTY, INDEX, d -> x -> x.call(d));
        each("put", NO_DUTY, INDEX, d -> x -> x.put(d));
        each("forget", NO_DUTY, INDEX, d -> x -> x.forget(d));
        each("recall", NO_DUTY, INDEX, d -> x -> x.recall(d));
        each("hand", NO_DUTY, INDEX, d -> x -> x.hand(d, 0));
        each("lean", NO_DUTY, INDEX, d -> x -> x.lean(d, 0));
        each("lean on", new int[] {-2, 6, 12, Integer.MIN_VALUE, Integer.MAX_VALUE}, INDEX, d -> x -> x.lean(0, d));
        each("greets", NO_DUTY, INDEX, d -> x -> x.greets(d, 0));
        each("where", NO_DUTY, INDEX, d -> x -> x.where(d, 0));
        each("soon", NO_DUTY, INDEX, d -> x -> x.soon(d));
        each("before", NO_DUTY, INDEX, d -> x -> x.before(d));
        each("after", NO_DUTY, INDEX, d -> x -> x.after(d));
        each("depth", NO_DUTY, INDEX, d -> x -> x.depth(d));
        each("rests", NO_DUTY, INDEX, d -> x -> x.rests(0, 1, d));
        each("done", NO_DUTY, INDEX, d -> x -> x.done(d));
        each("ahead", NO_DUTY, INDEX, d -> x -> x.ahead(d, 0, 0));
        each("led", NO_DUTY, INDEX, d -> x -> x.led(d, true));
    }

    private static void noSuchKerb() {
        Check.sentence(21, "there is no such PERSON, DUTY, KERB");
        each("greets at", NO_KERB, INDEX, k -> x -> x.greets(2, k));
        each("crowd from", NO_KERB, INDEX, k -> x -> x.crowd(k, 15, 0));
        each("crowd to", NO_KERB, INDEX, k -> x -> x.crowd(0, k, 0));
        each("greets of one that is not waiting, at", NO_KERB, INDEX, k -> x -> x.greets(4, k));
    }

    private static void numbersThatAreNone() {
        Check.sentence(16, "IllegalArgumentException: a number is none, or two are one");
        for (int number : new int[] {15, 30, 31, 50, 51, 52}) {
            Check.promise(number);
        }
        each("days", new int[] {0, 91, -1, Integer.MIN_VALUE, Integer.MAX_VALUE}, ARGUMENT, n -> x -> x.days(n));
        each("free", new int[] {10, -1, Integer.MIN_VALUE, Integer.MAX_VALUE}, ARGUMENT, n -> x -> x.free(0, n));
        each("young", new int[] {99, -1, Integer.MIN_VALUE, Integer.MAX_VALUE}, ARGUMENT, a -> x -> x.young(a));
        each("older", new int[] {100, -1, Integer.MIN_VALUE, Integer.MAX_VALUE}, ARGUMENT, a -> x -> x.older(a));
        each("ahead", new int[] {91, -1, Integer.MIN_VALUE, Integer.MAX_VALUE}, ARGUMENT, n -> x -> x.ahead(0, n, 0));
        each("trial", new int[] {91, -1, Integer.MIN_VALUE, Integer.MAX_VALUE}, ARGUMENT, n -> x -> x.trial(n, false));
        each("trial", new int[] {91, -1}, ARGUMENT, n -> x -> x.trial(n, true));
        each("span", new int[] {91, -1, Integer.MIN_VALUE, Integer.MAX_VALUE}, ARGUMENT, n -> x -> x.span(n, true));
        each("span", new int[] {91, -1}, ARGUMENT, n -> x -> x.span(n, false));
        Check.sentence(42, "N or K are none");
        each("odds of N", new int[] {7, -1, Integer.MIN_VALUE, Integer.MAX_VALUE}, ARGUMENT, n -> x -> x.odds(n, 0));
        each("odds of K", new int[] {7, -1, Integer.MIN_VALUE, Integer.MAX_VALUE}, ARGUMENT, k -> x -> x.odds(6, k));
    }

    private static void hoursThatAreNone() {
        Check.sentence(20, "IllegalArgumentException: the hour is none");
        each("where", new int[] {301, -1, Integer.MIN_VALUE, Integer.MAX_VALUE}, ARGUMENT, h -> x -> x.where(2, h));
        each("where of one that is not waiting", new int[] {301, -1}, ARGUMENT, h -> x -> x.where(4, h));
        Check.sentence(21, "the hour is none, or the first KERB is above the second one");
        each("crowd", new int[] {301, -1, Integer.MIN_VALUE, Integer.MAX_VALUE}, ARGUMENT, h -> x -> x.crowd(0, 15, h));
        each("crowd from 15 to", new int[] {0, 14}, ARGUMENT, k -> x -> x.crowd(15, k, 0));
        Check.sentence(23, "IllegalArgumentException: H is none");
        each("does", new int[] {100, -1, Integer.MIN_VALUE, Integer.MAX_VALUE}, ARGUMENT, h -> x -> x.does(h, false));
        each("does", new int[] {100, -1}, ARGUMENT, h -> x -> x.does(h, true));
        Check.promise(43);
        each("spare", new int[] {0, 55, -1, Integer.MIN_VALUE, Integer.MAX_VALUE}, ARGUMENT, h -> x -> x.spare(0, h));
    }

    private static void bothAreOne() {
        Check.sentence(14, "IllegalArgumentException: both are one");
        each("lean", new int[] {0, 2, 5}, ARGUMENT, d -> x -> x.lean(d, d));
        each("swap", new int[] {0, 2}, ARGUMENT, p -> x -> x.swap(p, p));
        each("rests", new int[] {0, 2}, ARGUMENT, p -> x -> x.rests(p, p, 0));
        Check.promise(37);
        Check.promise(38);
        Check.sentence(13, "IllegalArgumentException: it is that one's");
        refused("hand of a waiting one", ARGUMENT, x -> x.hand(2, 1));
        refused("hand of a forgotten one", ARGUMENT, x -> x.hand(4, 2));
    }

    private static void anotherWhat() {
        Check.sentence(7, "NoSuchElementException: another what");
        int[] wild = {-1, Integer.MIN_VALUE, Integer.MAX_VALUE};
        refused("person", ELEMENT, x -> x.person(0, 6));
        each("person", wild, ELEMENT, what -> x -> x.person(2, what));
        refused("duty", ELEMENT, x -> x.duty(0, 11));
        each("duty", wild, ELEMENT, what -> x -> x.duty(5, what));
        refused("ahead", ELEMENT, x -> x.ahead(0, 0, 3));
        each("ahead", wild, ELEMENT, what -> x -> x.ahead(0, 90, what));
        refused("log", ELEMENT, x -> x.log(0, 4));
        each("log", wild, ELEMENT, what -> x -> x.log(0, what));
        refused("log where there is no row", ELEMENT, x -> x.log(60, 4));
        refused("log where there can be no row", ELEMENT, x -> x.log(-1, -1));
        Check.promise(54);
    }

    private static void itCannotBe() {
        Check.sentence(9, "IllegalStateException: it is none of CAN");
        refused("call of a done one", STATE, x -> x.call(0));
        refused("call of one that is not READY", STATE, x -> x.call(3));
        refused("call of a forgotten one", STATE, x -> x.call(4));
        refused("call of one with more LEFT than it PASSES", STATE, x -> x.call(5));
        Check.sentence(10, "Put off: AGE then. IllegalStateException: it is not waiting");
        refused("put of a done one", STATE, x -> x.put(0));
        refused("put of a forgotten one", STATE, x -> x.put(4));
        Check.sentence(11, "Forgotten: LEFT of it. IllegalStateException: it is not waiting");
        refused("forget of a done one", STATE, x -> x.forget(1));
        refused("forget of a forgotten one", STATE, x -> x.forget(4));
        Check.sentence(12, "IllegalStateException: it is not forgotten");
        refused("recall of a done one", STATE, x -> x.recall(0));
        refused("recall of a waiting one", STATE, x -> x.recall(2));
        Check.sentence(13, "IllegalStateException: it is done");
        refused("hand of a done one", STATE, x -> x.hand(0, 1));
        refused("hand of another done one", STATE, x -> x.hand(1, 2));
    }

    private static void theOneToldFirst() {
        Check.sentence(7, "Of several exceptions the one told first is thrown");
        refused("no person, another what", INDEX, x -> x.person(3, 6));
        refused("no duty, another what", INDEX, x -> x.duty(6, 11));
        refused("no duty, no kerb", INDEX, x -> x.greets(6, 16));
        refused("no duty, no hour", INDEX, x -> x.where(6, 301));
        refused("no kerb, no hour", INDEX, x -> x.crowd(16, 16, 301));
        refused("no second kerb, no hour", INDEX, x -> x.crowd(3, 16, -1));
        refused("no second kerb below the first one", INDEX, x -> x.crowd(3, -1, 0));
        refused("no first kerb above the second one", INDEX, x -> x.crowd(16, 3, 0));
        refused("no people, both are one", INDEX, x -> x.swap(3, 3));
        refused("no people, both are one", INDEX, x -> x.swap(-1, -1));
        refused("no people, both are one", INDEX, x -> x.rests(3, 3, 0));
        refused("no duty, both are one", INDEX, x -> x.rests(0, 0, 6));
        refused("no person, no hours", INDEX, x -> x.spare(3, 0));
        refused("no duty, no days, another what", INDEX, x -> x.ahead(6, 91, 3));
        refused("no duty, another what", INDEX, x -> x.ahead(6, 0, 3));
        refused("no days, another what", ARGUMENT, x -> x.ahead(0, 91, 3));
    }

    private static void theOneToldFirstOfActs() {
        Check.sentence(13, "Of several exceptions the one told first is thrown");
        refused("no duty, no person", INDEX, x -> x.hand(6, 3));
        refused("a done one, no person", INDEX, x -> x.hand(0, 3));
        refused("done, and that one's", ARGUMENT, x -> x.hand(0, 0));
        refused("no duty, both are one", INDEX, x -> x.lean(6, 6));
        refused("none, both are one", INDEX, x -> x.lean(-1, -1));
        refused("no duty, on none", INDEX, x -> x.lean(6, -1));
        refused("no person, no hours", INDEX, x -> x.free(3, 10));
    }

    /** The answer is refused, the TAPE has no byte more, fault() is another one, and all else is as it was. */
    private static void usedUp(String what, String text, int fault, Asked call) {
        PutOffParade x = rich();
        Told.text(x, text);
        Check.refused(what + " of " + text, ARGUMENT, () -> call.answer(x));
        Check.due("behind " + what + " of " + text, "tape 0; fault " + fault + "; " + STREET_AHEAD, Seen.all(x));
        x.undo();
        Check.due("what is undone behind " + what + " of " + text, UNDONE, Seen.street(x));
        x.back();
        Check.due("THE IMAGE behind " + what + " of " + text, BACK, Seen.street(x));
    }

    private static void textsUseTheTapeUp() {
        Check.sentence(4, "a call that throws changes nothing but the TAPE, where it is used up, and fault(), where a text is read");
        usedUp("street", "walk", 0, x -> x.street());
        usedUp("street", "person at 1 free 1;duty of 3 takes 9;ill 101", 41, x -> x.street());
        usedUp("street", "forgotten 2;forgotten 4", 22, x -> x.street());
        usedUp("street", "pace 9;price 9;day 9;month 9;ill 9;", 35, x -> x.street());
        usedUp("street", " ".repeat(399) + "x", 399, x -> x.street());
        Check.sentence(5, "IllegalArgumentException: the text is wrong");
        usedUp("law", "tax", 0, x -> x.law());
        usedUp("law", "shame 60;grow 60;ease 61", 22, x -> x.law());
        usedUp("law", "shame 60 if (old or not ready) and (", 36, x -> x.law());
        usedUp("law", "grow", 4, x -> x.law());
    }

    private static void kerbsUseTheTapeUp() {
        Check.sentence(32, "IllegalArgumentException: the TAPE is not that");
        String[] wrong = {"\1", "\1\20", "\2\1", "\0\17\0", "\0\377", "\0\1".repeat(21), "\0\1".repeat(200), "\0\1\0\1\1\0"};
        for (String kerbs : wrong) {
            usedUp("whose", kerbs, 3, x -> x.whose());
            usedUp("ask", kerbs, 3, x -> x.ask());
        }
        Check.promise(33);
    }

    private static PutOffParade richOfTwelve() {
        PutOffParade x = rich();
        for (int text = 2; text <= 12; text++) {
            Told.street(x, "");
        }
        x.put(2);
        return x;
    }

    private static void textBeyondTheTwelfth() {
        Check.sentence(4, "(also by one that is refused)");
        String twelve = Seen.street(richOfTwelve());
        PutOffParade x = richOfTwelve();
        Told.wrongStreet(x, "|walk");
        Told.text(x, "person at 1 free 1;ill 3");
        Check.refused("a right one", UnsupportedOperationException.class, x::street);
        Check.due("behind it", "tape 0; fault -1; " + twelve, Seen.all(x));
        Check.due("its act", true, x.undo());
        PutOffParade y = richOfTwelve();
        Told.wrongStreet(y, "person at 1 free 1;ill |333");
        Check.due("behind a wrong one", "tape 0; fault 23; " + twelve, Seen.all(y));
        Check.due("its act", true, y.undo());
    }

    private static void falseAndNothingHappens() {
        Check.sentence(3, "true; false, and nothing happens, if it has fewer, or n is below 0");
        PutOffParade x = rich();
        for (int n : new int[] {8, 400, 401, -1, Integer.MIN_VALUE, Integer.MAX_VALUE}) {
            Check.due("end(" + n + ") of 7", false, x.end(n));
        }
        Check.due("nothing happens", AHEAD, Seen.all(x));
        Check.sentence(2, "and none come, if it would have more than 400");
        PutOffParade y = rich();
        for (int n = 27; n <= 387; n += 20) {
            Check.due("feed", n, y.feed(0, 0, 0, 0, 0));
        }
        Check.due("feed to 407", -1, y.feed(1, 1, 1, 1, 1));
        Check.due("none come", 387, Seen.tape(y));
        y.end(7);
        Check.due("nothing else happens", AHEAD, Seen.all(y));
        Check.sentence(58, "false, and nothing happens, if none was kept");
        PutOffParade z = Told.of(ShowTest.STREET, "shame 3");
        z.put(0);
        String ahead = Seen.all(z);
        Check.due("back", false, z.back());
        Check.due("nothing happens", ahead, Seen.all(z));
        Check.sentence(56, "UNDONE: whether there was one");
        Check.due("undo", true, z.undo());
        String none = Seen.all(z);
        Check.due("undo of none", false, z.undo());
        Check.due("nothing happens", none, Seen.all(z));
    }
}
