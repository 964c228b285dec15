/** Promises 2 and 3: the tape, and that texts and told kerbs use it up. */
public final class TapeTest {
    public static void main(String[] args) {
        feeding();
        ending();
        usingUp();
        Check.close("TapeTest", 2, 3, 4);
    }

    private static void feeding() {
        Check.sentence(2, "how many it has; NONE, and none come, if it would have more than 400");
        PutOffParade x = new PutOffParade();
        for (int n = 1; n <= 20; n++) {
            Check.due("feed number " + n, 20 * n, x.feed(n, n, n, n, n));
        }
        Check.due("feed beyond 400", -1, x.feed(1, 2, 3, 4, 5));
        Check.due("none came: end(401)", false, x.end(401));
        Check.due("none came: end(400)", true, x.end(400));
        x.end(381);
        Check.due("feed to 401", -1, x.feed(0, 0, 0, 0, 0));
        x.end(380);
        Check.due("feed to 400", 400, x.feed(0, 0, 0, 0, 0));
        x.end(7);
        Check.due("feed behind 7", 27, x.feed(0, 0, 0, 0, 0));

        Check.sentence(2, "Twenty bytes come behind the TAPE, of each number the highest first");
        PutOffParade y = new PutOffParade();
        y.feed(0x696c6c20, 0x37303b64, 0x61792033, 0x2020203b, 0x70616365);
        y.feed(0x20350000, 0, 0, 0, 0);
        y.end(22);
        Check.due("the highest byte is first", 1, y.street());
        Check.due("ill 70", 70, y.count(6));
        Check.due("day 3", 3, y.count(4));
        Check.due("pace 5", 5, y.count(7));

        PutOffParade z = new PutOffParade();
        z.feed(0x20202020, 0x202020ff, 0xffffffff, -1, -1);
        Check.argument("bytes above 127", z::street);
        Check.due("fault at a byte above 127", 7, z.fault());
    }

    private static void ending() {
        Check.sentence(3, "The TAPE has its first n bytes alone: true; false, and nothing happens, if it has fewer, or n is below 0");
        PutOffParade x = new PutOffParade();
        Check.due("end(0) of nothing", true, x.end(0));
        Check.due("end(1) of nothing", false, x.end(1));
        Check.due("end(-1)", false, x.end(-1));
        x.feed(0x696c6c20, 0x37303b64, 0, 0, 0);
        Check.due("end(21) of 20", false, x.end(21));
        Check.due("end(-1) of 20", false, x.end(-1));
        Check.due("end(-2147483648)", false, x.end(Integer.MIN_VALUE));
        Check.due("end(2147483647)", false, x.end(Integer.MAX_VALUE));
        Check.due("nothing happened", 40, x.feed(0, 0, 0, 0, 0));
        Check.due("end(20) of 40", true, x.end(20));
        Check.due("end(20) of 20", true, x.end(20));
        Check.due("end(6)", true, x.end(6));
        Check.due("end(7) of 6", false, x.end(7));
        Check.due("the first bytes stay", 1, x.street());
        Check.due("ill 70 cut to ill 7", 70, x.count(6));

        PutOffParade y = new PutOffParade();
        y.feed(0x696c6c20, 0x37303b64, 0, 0, 0);
        y.end(5);
        y.street();
        Check.due("ill 7", 7, y.count(6));
    }

    private static void usingUp() {
        Check.sentence(4, "Uses the TAPE up");
        PutOffParade x = new PutOffParade();
        Told.street(x, "person at 3 free 4");
        Check.due("used up by street", false, x.end(1));
        Told.law(x, "grow 1");
        Check.due("used up by law", false, x.end(1));
        Told.bytes(x, 1, 3);
        x.whose();
        Check.due("used up by whose", false, x.end(1));
        Told.bytes(x, 1, 3);
        x.ask();
        Check.due("used up by ask", false, x.end(1));
        Told.text(x, "person");
        Check.argument("a wrong street", x::street);
        Check.due("used up by a wrong street", false, x.end(1));
        Told.text(x, "grow");
        Check.argument("a wrong law", x::law);
        Check.due("used up by a wrong law", false, x.end(1));
        Told.bytes(x, 1);
        Check.argument("a wrong whose", x::whose);
        Check.due("used up by a wrong whose", false, x.end(1));
        Told.bytes(x, 1);
        Check.argument("a wrong ask", x::ask);
        Check.due("used up by a wrong ask", false, x.end(1));
    }
}
