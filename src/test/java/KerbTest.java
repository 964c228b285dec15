/** Promises 32 to 36: whose a duty is, whom to ask next, gaps, and what was forgotten. */
public final class KerbTest {
    private static final String PEOPLE = "person at 3 free 0;person at 7 free 0;person at 7 free 0;person at 0 free 0;person at 15 free 0";

    public static void main(String[] args) {
        whose();
        ask();
        gaps();
        lost();
        missed();
        Check.close("KerbTest", 32, 33, 34, 35, 36);
    }

    private static int whose(PutOffParade x, int... kerbs) {
        Told.bytes(x, kerbs);
        return x.whose();
    }

    private static int ask(PutOffParade x, int... kerbs) {
        Told.bytes(x, kerbs);
        return x.ask();
    }

    private static void whose() {
        Check.promise(32);
        PutOffParade x = Told.of(PEOPLE);
        Check.due("none may be told", 31, whose(x));
        Check.due("0 to 15", 31, whose(x, 0, 15));
        Check.due("3 to 7", 7, whose(x, 3, 7));
        Check.due("4 to 6", 0, whose(x, 4, 6));
        Check.due("7 to 7", 6, whose(x, 7, 7));
        Check.due("0 to 0", 8, whose(x, 0, 0));
        Check.due("15 to 15", 16, whose(x, 15, 15));
        Check.due("both pairs", 6, whose(x, 4, 15, 0, 8));
        Check.due("both pairs that nobody fits", 0, whose(x, 0, 3, 7, 15));
        int[] many = new int[40];
        for (int i = 1; i < many.length; i += 2) {
            many[i] = 15;
        }
        Check.due("forty bytes", 31, whose(x, many));
        many[39] = 2;
        Check.due("the last pair counts", 8, whose(x, many));
        Told.bytes(x, new int[42]);
        Check.argument("forty-two bytes", x::whose);
        Told.bytes(x, 3);
        Check.argument("one byte", x::whose);
        Told.bytes(x, 3, 4, 5);
        Check.argument("three bytes", x::whose);
        Told.bytes(x, 4, 3);
        Check.argument("the first above the second", x::whose);
        Told.bytes(x, 3, 16);
        Check.argument("no kerb", x::whose);
        Told.bytes(x, 16, 16);
        Check.argument("no kerbs", x::whose);
        Told.bytes(x, 0, 255);
        Check.argument("a byte above 127", x::whose);
        Told.bytes(x, 255, 255);
        Check.argument("bytes above 127", x::whose);
        Told.bytes(x, 128, 3);
        Check.argument("a byte below none", x::whose);
        Told.bytes(x, 0, 15, 0, 3, 9, 8);
        Check.argument("a later pair", x::whose);
        Check.due("the tape is used up", 31, x.whose());
        Check.due("nothing is told of it", 5, x.count(0));
    }

    private static void ask() {
        Check.promise(33);
        PutOffParade x = Told.of(PEOPLE);
        Check.due("two and three", 3, ask(x));
        Check.due("of those who fit", 3, ask(x, 1, 14));
        Check.due("of two at one kerb the least", 0, ask(x, 7, 7));
        Check.due("of one none", -1, ask(x, 0, 2));
        Check.due("of nobody none", -1, ask(x, 4, 6));
        Check.due("7 and 7 and 15", 7, ask(x, 4, 15));
        Check.due("0 and 3", 0, ask(x, 0, 3));
        Check.due("15 apart from 14", 14, ask(Told.of("person at 15 free 0;person at 14 free 0")));
        Check.due("all at 15", 0, ask(Told.of("person at 15 free 0;person at 15 free 0")));
        Check.due("one person", -1, ask(Told.of("person at 5 free 0")));
        Check.due("one below", 2, ask(Told.of("person at 2 free 0;person at 9 free 0;person at 9 free 0")));
        Check.due("one above", 2, ask(Told.of("person at 2 free 0;person at 9 free 0;person at 2 free 0")));
        Told.bytes(x, 3);
        Check.argument("one byte", x::ask);
        Told.bytes(x, 4, 3);
        Check.argument("the first above the second", x::ask);
        Told.bytes(x, 3, 16);
        Check.argument("no kerb", x::ask);
        Told.bytes(x, new int[42]);
        Check.argument("forty-two bytes", x::ask);
        Check.due("forty bytes", -1, ask(x, new int[40]));
        Check.due("the tape is used up", 3, x.ask());
    }

    private static void gaps() {
        Check.promise(34);
        String person = "person at 0 free 0;pace 9;";
        Check.due("0", 0, Told.of(person + "duty of 0 takes 1 age 1").gap());
        Check.due("none behind 0", -1, Told.of(person + "duty of 0 takes 1").gap());
        Check.due("2", 2, Told.of(person + "duty of 0 takes 1 age 3;duty of 0 takes 1;duty of 0 takes 1 age 1").gap());
        PutOffParade x = Told.of(person + "duty of 0 takes 1 age 3;duty of 0 takes 1;duty of 0 takes 1 age 1;duty of 0 takes 1 age 2");
        Check.due("none", -1, x.gap());
        x.forget(3);
        Check.due("a forgotten one leaves one", 2, x.gap());
        x.forget(0);
        Check.due("a forgotten one is none that is older", -1, x.gap());
        x.recall(0);
        x.call(1);
        Check.due("a done one leaves one", 0, x.gap());
        Check.due("98 is the last that can be", 1, Told.of(person + "duty of 0 takes 1 age 99;duty of 0 takes 1").gap());
    }

    private static void lost() {
        Check.promise(35);
        PutOffParade x = Told.of("person at 0 free 9;duty of 0 takes 1 age 3;duty of 0 takes 1;duty of 0 takes 1 age 1");
        Check.due("none", 0, x.lost());
        x.forget(2);
        x.forget(0);
        Check.due("two", 5, x.lost());
        x.recall(2);
        Check.due("one", 1, x.lost());
        x.days(5);
        Check.due("done ones are not", 1, x.lost());
    }

    private static void missed() {
        Check.promise(36);
        PutOffParade x = Told.of("person at 0 free 9;duty of 0 takes 1 age 9;duty of 0 takes 1 age 2;duty of 0 takes 1 age 4;"
            + "duty of 0 takes 1 age 9;duty of 0 takes 1 age 10;duty of 0 takes 1;duty of 0 takes 1 age 4;forgotten 1;forgotten 2;forgotten 3;forgotten 4");
        Check.due("2 is in a gap, 4 is not, nor 9, nor 10", 2, x.missed());
        x.forget(6);
        Check.due("4 is in a gap then", 70, x.missed());
        x.put(0);
        Check.due("9 is in a gap then", 78, x.missed());
        x.put(0);
        Check.due("10 is in a gap then", 94, x.missed());
        x.forget(0);
        Check.due("nothing is older", 0, x.missed());
        Check.due("LOST all the same", 95, x.lost());
        PutOffParade y = Told.of("person at 0 free 0;duty of 0 takes 1 age 99;duty of 0 takes 1 age 98;duty of 0 takes 1 age 99;forgotten 1;forgotten 2");
        Check.due("98 is the last gap", 2, y.missed());
        PutOffParade z = Told.of("person at 0 free 0;duty of 0 takes 1 age 1;duty of 0 takes 1 age 2;forgotten 0");
        Check.due("the first one", 1, z.missed());
        Check.due("0 is the first gap", 0, z.gap());
        PutOffParade v = Told.of("person at 0 free 0;duty of 0 takes 1;duty of 0 takes 1 age 2");
        Check.due("0 is the first one's AGE", 1, v.gap());
    }
}
