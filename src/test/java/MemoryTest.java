/** Promises 53 to 58: the log, the seed, acts undone, and the image. */
public final class MemoryTest {
    private static final String STREET = ShowTest.STREET;
    private static final String LAW = "grow 3 if ready;shame 7 if left > 3;ease 2 if day > 20;shame 1 if day < 3";

    public static void main(String[] args) {
        led();
        log();
        longLog();
        rowsUndone();
        seed();
        undo();
        undoAfterTexts();
        image();
        imageOfLaw();
        Check.close("MemoryTest", 53, 54, 55, 56, 57, 58);
    }

    private static void led() {
        Check.promise(53);
        PutOffParade x = Told.of(STREET);
        Check.due("no row", 0, x.led(4, false));
        Check.due("no MONTH", -1, x.led(4, true));
        x.days(3);
        int[][] due = {{0, -1}, {0, -1}, {1, 8}, {1, 8}, {1, 8}, {0, -1}};
        for (int d = 0; d < due.length; d++) {
            Check.due("led(" + d + ", false)", due[d][0], x.led(d, false));
            Check.due("led(" + d + ", true)", due[d][1], x.led(d, true));
        }
        x.days(60);
        Check.due("three months", 3, x.led(4, false));
        Check.due("the latest", 10, x.led(4, true));
        Check.due("the latest of one that is done since", 8, x.led(2, true));
        Check.index("led(6, false)", () -> x.led(6, false));
        Check.index("led(-1, true)", () -> x.led(-1, true));
    }

    private static void log() {
        Check.promise(54);
        PutOffParade x = Told.of(STREET, "shame 20 if duty < 3 and day < 3 and day > 1");
        Check.due("no row", -1, x.log(0, 0));
        x.days(2);
        Check.due("on day 1 there is none", 0, x.count(13));
        x.days(1);
        int[][] due = {{8, 4, 2, 14}, {8, 3, 1, 9}, {8, 2, 0, 23}};
        for (int ago = 0; ago < due.length; ago++) {
            for (int what = 0; what < 4; what++) {
                Check.due("log(" + ago + ", " + what + ")", due[ago][what], x.log(ago, what));
            }
        }
        Check.due("log(3, 0)", -1, x.log(3, 0));
        Check.due("log(-1, 0)", -1, x.log(-1, 0));
        Check.due("log(2147483647, 3)", -1, x.log(Integer.MAX_VALUE, 3));
        Check.due("log(-2147483648, 3)", -1, x.log(Integer.MIN_VALUE, 3));
        Check.element("log(0, 4)", () -> x.log(0, 4));
        Check.element("log(0, -1)", () -> x.log(0, -1));
        Check.element("log(99, 4), where there is no row", () -> x.log(99, 4));
        x.days(30);
        Check.due("only duty 4 goes by then", 9, x.log(0, 0));
        Check.due("its place", 0, x.log(0, 2));
        Check.due("the one ahead", 8, x.log(1, 0));
        Told.street(x, "day 2");
        Check.due("a DAY that is told lets none go by", 4, x.count(13));
        Told.street(x, "day 1");
        x.days(1);
        Check.due("a DAY that comes does", 5, x.count(13));
    }

    private static void longLog() {
        Check.promise(54);
        String duties = ";duty of 0 takes 99".repeat(12);
        PutOffParade x = Told.of("person at 0 free 0" + duties);
        x.days(1);
        Check.due("twelve rows", 12, x.count(13));
        x.days(90);
        Check.due("48 rows", 48, x.count(13));
        x.days(30);
        Check.due("60 rows", 60, x.count(13));
        Check.due("the first one", 0, x.log(59, 0));
        x.put(5);
        x.forget(7);
        x.days(30);
        Check.due("60 rows at most", 60, x.count(13));
        Check.due("of the month ahead one is left", 0, x.log(59, 0));
        Check.due("it is the last of these", 11, x.log(59, 1));
        Check.due("then the next month", 1, x.log(58, 0));
        Check.due("log(60, 0)", -1, x.log(60, 0));
        Check.due("the one put off is the last", 5, x.log(0, 1));
        Check.due("at place 10", 10, x.log(0, 2));
        Check.due("by 6", 6, x.log(0, 3));
        Check.due("rows of 11", 6, x.led(11, false));
        Check.due("rows of 5", 5, x.led(5, false));
        Check.due("rows of 7", 4, x.led(7, false));
        Check.due("the latest of 7", 4, x.led(7, true));
    }

    private static void rowsUndone() {
        Check.promise(56);
        PutOffParade x = Told.of("person at 0 free 0" + ";duty of 0 takes 99".repeat(12));
        x.days(90);
        x.days(90);
        x.days(90);
        for (int d = 0; d < 12; d++) {
            x.put(d);
        }
        x.undo();
        x.days(30);
        x.days(90);
        x.undo();
        x.undo();
        Check.due("60 rows", 60, x.count(13));
        for (int ago = 0; ago < 60; ago++) {
            Check.due("MONTH " + ago + " ago", 8 - ago / 12, x.log(ago, 0));
            Check.due("DUTY " + ago + " ago", 11 - ago % 12, x.log(ago, 1));
        }
    }

    private static void seed() {
        Check.promise(55);
        PutOffParade x = new PutOffParade();
        Check.due("1 at first", 1, x.seed(-5));
        Check.due("what it was", -5, x.seed(Integer.MIN_VALUE));
        Check.due("any int", Integer.MIN_VALUE, x.seed(0));
        Check.due("no act", 0, x.count(14));
        PutOffParade y = Told.of("person at 0 free 1;duty of 0 takes 99;ill 50");
        y.seed(-77);
        int seed = -77;
        int left = 99;
        for (int day = 0; day < 80; day++) {
            seed = seed * 1103515245 + 12345;
            left -= (seed >> 16 & 32767) % 100 < 50 ? 0 : 1;
        }
        y.days(80);
        Check.due("draws by it", left, y.duty(0, 1));
        Check.due("goes on", seed, y.seed(4));
        y.undo();
        Check.due("as ahead of the act", -77, y.seed(8));
    }

    private static PutOffParade behind(int acts) {
        PutOffParade x = Told.of(STREET, LAW, "ill 30;duty of 2 takes 99;duty of 2 takes 99");
        for (int act = 0; act < acts; act++) {
            act(x, act);
        }
        return x;
    }

    private static void undo() {
        Check.promise(56);
        Check.due("no act", false, behind(0).undo());
        for (int acts = 1; acts <= 20; acts++) {
            PutOffParade x = behind(acts);
            Check.due("acts", Math.min(12, acts), x.count(14));
        }
        for (int undone = 1; undone <= 12; undone++) {
            PutOffParade x = behind(20);
            for (int i = 0; i < undone; i++) {
                Check.due("undo", true, x.undo());
            }
            Check.due("acts left", 12 - undone, x.count(14));
            Check.due("as ahead of the act", acts(Seen.street(behind(20 - undone)), 12 - undone), Seen.street(x));
        }
        PutOffParade y = behind(20);
        for (int i = 0; i < 12; i++) {
            y.undo();
        }
        Check.due("12 are remembered", false, y.undo());
        Check.due("nothing happens", false, y.undo());
        act(y, 4);
        act(y, 9);
        Check.due("two acts more", 2, y.count(14));
        Check.due("undone", true, y.undo());
        Check.due("undone", true, y.undo());
        Check.due("no more", false, y.undo());
        Check.due("as it was", acts(Seen.street(behind(8)), 0), Seen.street(y));
        Check.state("a call that throws is no act", () -> y.recall(0));
        Check.argument("a call that throws is no act", () -> y.days(0));
        Check.due("none", false, y.undo());
    }

    /** The same, but with so many acts remembered: the fifteenth number. */
    private static String acts(String seen, int acts) {
        int end = seen.indexOf(';') - 1;
        int from = seen.lastIndexOf(' ', end - 1) + 1;
        return seen.substring(0, from) + acts + seen.substring(end);
    }

    private static void act(PutOffParade x, int n) {
        switch (n % 10) {
            case 0: x.days(1); break;
            case 1: x.put(x.parade(0)); break;
            case 2: x.free(2, n % 3); break;
            case 3: x.lean(4, n > 10 ? 1 : 5); break;
            case 4: x.hand(5, x.duty(5, 0) == 1 ? 2 : 1); break;
            case 5: x.days(30); break;
            case 6: x.forget(x.parade(0)); break;
            case 7: x.recall(31 - Integer.numberOfLeadingZeros(x.lost())); break;
            case 8: x.lean(4, -1); break;
            default: x.free(0, 0); break;
        }
    }

    private static void undoAfterTexts() {
        Check.promise(56);
        PutOffParade x = Told.of(STREET);
        x.put(1);
        Told.law(x, "");
        Check.due("behind a law none is remembered", false, x.undo());
        Check.due("the act stays", 6, x.duty(1, 2));
        x.put(1);
        Told.street(x, "");
        Check.due("behind a text none is remembered", false, x.undo());
        x.put(1);
        Told.text(x, "walk");
        Check.argument("a wrong text", x::street);
        Told.text(x, "walk");
        Check.argument("a wrong law", x::law);
        Told.bytes(x, 1, 2);
        x.whose();
        Check.due("behind a wrong one it is", true, x.undo());
        Check.due("AGE", 7, x.duty(1, 2));
        x.put(1);
        x.image();
        Check.due("the tape", 20, x.feed(1, 2, 3, 4, 5));
        Check.due("behind the image it is", true, x.undo());
        Check.due("the tape stays", 40, x.feed(1, 2, 3, 4, 5));
        Check.due("AGE", 7, x.duty(1, 2));
        x.put(2);
        Check.due("the image stays", true, x.back());
        Check.due("going back none is remembered", false, x.undo());
        Check.due("AGE", 8, x.duty(1, 2));
        PutOffParade y = Told.of(STREET);
        y.put(1);
        Check.due("no image", false, y.back());
        Check.due("nothing happens", true, y.undo());
        y.call(0);
        y.call(1);
        Check.due("done again", true, y.undo());
        Check.due("LEFT is back", 3, y.duty(1, 1));
        Check.due("STATE is back", 0, y.duty(1, 5));
    }

    private static PutOffParade imaged() {
        PutOffParade x = behind(1);
        x.days(10);
        x.seed(44);
        x.image();
        return x;
    }

    private static void image() {
        Check.promise(57);
        PutOffParade y = behind(1);
        y.days(10);
        y.seed(44);
        String was = Seen.street(y);
        Check.due("nothing changes", was, Seen.street(imaged()));
        PutOffParade x = imaged();
        for (int act = 0; act < 14; act++) {
            act(x, act);
        }
        Told.street(x, "person at 1 free 1;duty of 3 takes 3;pace 7;price 7;ill 7;day 7;month 7");
        Told.law(x, "grow 1");
        x.days(40);
        x.feed(0, 0, 0, 0, 0);
        Check.promise(58);
        Check.due("back", true, x.back());
        Check.due("as it was, but for the acts", acts(was, 0), Seen.street(x));
        Check.due("the tape stays", 40, x.feed(0, 0, 0, 0, 0));
        x.end(0);
        x.days(5);
        Check.due("back once more", true, x.back());
        Check.due("as it was once more", acts(was, 0), Seen.street(x));
        Check.promise(57);
        PutOffParade z = imaged();
        z.put(4);
        String then = Seen.street(z);
        z.image();
        z.put(4);
        Check.due("back", true, z.back());
        Check.due("as the later image is", acts(then, 0), Seen.street(z));
    }

    private static void imageOfLaw() {
        Check.promise(58);
        PutOffParade x = Told.of(STREET);
        Check.due("none was kept", false, x.back());
        x.image();
        Told.law(x, LAW);
        Told.street(x, "ill 9");
        Check.due("four lines", 4, x.count(3));
        Check.due("back", true, x.back());
        Check.due("without a law", -1, x.count(3));
        Check.due("by AGE alone", 2, x.duty(0, 8));
        Check.due("one text", 1, x.count(2));
        Told.law(x, LAW);
        x.image();
        Told.law(x, "shame 60");
        x.back();
        Check.due("four lines again", 4, x.count(3));
        Check.due("and what they tell", 7, x.duty(0, 8));
        for (int n = 0; n < 11; n++) {
            Told.street(x, "");
        }
        Told.text(x, "");
        Check.refused("twelve texts", UnsupportedOperationException.class, x::street);
        x.back();
        Check.due("one text again", 2, Told.street(x, ""));
    }
}
