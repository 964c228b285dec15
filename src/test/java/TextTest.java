/** Promises 4, 5 and 6: the texts of the street and of the law, and the first wrong byte. */
public final class TextTest {
    private static final String P = "person at 1 free 1;";
    private static final String PD = P + "duty of 0 takes 5;";

    /** Wrong texts of the street; | stands ahead of the first wrong byte, and is not told. */
    private static final String[] WRONG_STREETS = {
        "|walk", "person|", "person at|", "person |att 1", "person at |16 free 1", "person at 1|", "person at 1 |fre 1",
        "person at 1 free|", "person at 1 free |10", "person at 1 free 1 |1", "person at 1 free 1|,", "person |3 free 1",
        "person at 1 free 1;|", "person at 1 free 1 ;  |", "person at 1 free 1;|;ill 1", "|;", "  |;ill 3", "ill 3  |ill 4",
        "|persons at 1 free 1", "|Person at 1 free 1", "|perso", "|per son", "person at 1 free 1|x", "person at1free1;|x",
        "person at |0001 free 1", "person at |x free 1", "person at 1 free |-1", "|12", "person|\tat 1",
        "|duties", "duty |on 0", "duty of |0 takes 1", P + "duty of |1 takes 1", P + "duty of 0 |take 1",
        P + "duty of 0 takes |0", P + "duty of 0 takes |100", P + "duty of 0 takes|", P + "duty of 0 takes 99 |for",
        P + "duty of 0 takes 1 age |100", P + "duty of 0 takes 1 age|", P + "duty of 0 takes 1 tool |6",
        P + "duty of 0 takes 1 tool 1 |age 2", P + "duty of 0 takes 1 on |0", PD + "duty of 0 takes 1 on |1",
        PD + "duty of 0 takes 1 on 0 |tool 1", PD + "duty of 0 takes 1 on 0 |age 1", PD + "duty of 0 takes 1 on|",
        PD + "duty of 0 takes 1 age 3 |age 3", P + "duty |takes 1", P + "duty of |0000 takes 1",
        "forgotten |0", "forgotten|", PD + "forgotten |1", PD + "forgotten 0;forgotten |0", PD + "forgotten |ill 3",
        "ill |101", "ill|", "ill |1000", "pace |0", "pace |10", "price |51", "day |0", "day |31", "month |1000", "month|",
        "ill |ill", "ill 1;|walk", "ill 1;  |5", "ill 1 |: pace 3", "ill |(3)", "ill 3|.", "price 5;pace 3;day 30|/",
        P + P + P + P + P + P + "|person at 1 free 1", P + P + P + P + P + P + "|person at 99",
        PD + "duty of 0 takes 1;".repeat(11) + "|duty of 0 takes 1", "ill 1;".repeat(14) + "|ill 1", "ill 1;".repeat(14) + "|",
        "person|;ill 1", "person at|;ill 1", "person at 1|;ill 1", "person at 1 free|;ill 1", P + "duty|;ill 1", P + "duty of|;ill 1",
        P + "duty of 0|;ill 1", P + "duty of 0 takes|;ill 1", P + "duty of 0 takes 1 age|;ill 1", P + "duty of 0 takes 1 tool|;ill 1",
        PD + "duty of 0 takes 1 on|;ill 1", PD + "forgotten|;ill 1", "ill|;ill 1", "pace|;ill 1", "price|;ill 1", "day|;ill 1", "month|;ill 1",
        "|personz at 1 free 1", "person at 1 free 1 |zz", P + "duty of 0 takes 1 on|0", PD + "duty of 0 takes 1 tool 1 on |1",
        "ill 1;".repeat(14) + " |walk", "ill 1;".repeat(13) + "ill 1|x", "ill 1;".repeat(13) + "|",
    };

    private static final String[] WRONG_LAWS = {
        "|tax", "grow|", "grow |61", "grow |if", "grow |0060", "shame |1000", "ease 5 if|", "ease 5 if tool|", "ease 5 if (old|",
        "ease 5;|", "|;", "grow 5 |fi old", "grow 5 |old", "grow 5 if |if", "grow 5 if old |old", "grow 5 if old |5",
        "grow 5 if old or|", "grow 5 if old and |or", "grow 5 if |and", "grow 5 if not|", "grow 5 if not |)", "grow 5 if (|)",
        "grow 5 if (old)|)", "grow 5 if old|)", "grow 5 if ((old)|", "grow 5 if ((old)|;grow 3", "grow 5 if |+ 3 < 4",
        "grow 5 if age +|", "grow 5 if age + |< 5", "grow 5 if age + |old", "grow 5 if age |old", "grow 5 if age <|",
        "grow 5 if age < |< 5", "grow 5 if age < |old", "grow 5 if age < 5 |< 6", "grow 5 if age < 5 |> 6", "grow 5 if ready |< 6",
        "grow 5 if old |+ 6 < 7", "grow 5 if age < |1000", "grow 5 if |1000 < age", "grow 5 if |0001 < age", "grow 5 if (age|) < 5",
        "grow 5 if |year < 5", "grow 5 if age |= 5", "grow 5 if age <|= 5", "grow 5 if age < 5 + |(age)", "grow 5 if 3 |and old",
        "grow 5 if not not not not not not |not old", "grow 5 if (((((( |(old)))))))", "grow 5 if not(not(not(|not old)))",
        "grow 5 if (((((not |(old))))))", "grow 5 if ((((((old)))))|", "grow 5 if ((((((old)))))) and old|)",
        "grow 1;".repeat(12) + "|grow 1", "grow 1;".repeat(12) + "|", "grow 1;".repeat(12) + " |tax", "grow 1;".repeat(11) + "|",
        "grow1|x", "|GROW 1", "|person at 1 free 1", "grow 5 |and", "grow 5 if ready|,", "grow 5 if 3 < 4 |3",
        "grow|;grow 1", "grow 5 if|;grow 1", "grow 5 if not|;grow 1", "grow 5 if age|;grow 1", "grow 5 if age <|;grow 1",
        "grow 5 if age < 5 +|;grow 1", "grow 5 if age +|;grow 1", "grow 5 if (old|;grow 1", "grow 5 if old and|;grow 1",
        "grow 5 if old or|;grow 1", "grow 5 if not old and not not not not not not |not old", "grow 5 if (old) and ((((((|(old",
        "grow 5 if |oldz", "grow 5 if 5 < |z",
        "grow 5 if |person < 3", "grow 5 if not 5|", "grow 5 if (old |old)", "grow 5 if (old or |)",
    };

    public static void main(String[] args) {
        rightStreets();
        wrongStreets();
        refusedStreets();
        nothingStaysOfWrongStreets();
        rightLaws();
        conditions();
        longConditions();
        lawsBehindWrongOnes();
        wrongLaws();
        faults();
        Check.close("TextTest", 4, 5, 6);
    }

    private static void rightStreets() {
        Check.promise(4);
        PutOffParade x = new PutOffParade();
        Check.due("no text", 1, Told.street(x, ""));
        Check.due("blanks alone", 2, Told.street(x, "    "));
        Check.due("no line", 0, x.count(0));
        Check.due("a third", 3, Told.street(x, "  person at 15 free 9 ;person   at 0 free 0;  person at3free4  "));
        Check.due("count(2)", 3, x.count(2));
        row("person 0", x, true, 0, 15, 9);
        row("person 1", x, true, 1, 0, 0);
        row("person 2", x, true, 2, 3, 4);
        Told.street(x, "duty of 2 takes 99;duty of 0 takes 1 age 99 tool 0 on 0;duty of 1 takes 007 tool 5;duty of 1 takes 3 age 0 on 2");
        row("duty 0", x, false, 0, 2, 99, 0, -1, -1, 0);
        row("duty 1", x, false, 1, 0, 1, 99, 0, 0, 0);
        row("duty 2", x, false, 2, 1, 7, 0, 5, -1, 0);
        row("duty 3", x, false, 3, 1, 3, 0, -1, 2, 0);
        Told.street(x, "forgotten 3;duty of 0 takes 2 on 3;ill 100;pace 9;price 50;day 30;month 999;ill 0;pace 1;price 0;day 1;month 0");
        row("duty 3 forgotten", x, false, 3, 1, 3, 0, -1, 2, 2);
        row("duty 4 on a forgotten one", x, false, 4, 0, 2, 0, -1, 3, 0);
        int[] least = {0, 1, 0, 1, 0};
        int[] what = {6, 7, 8, 4, 5};
        for (int i = 0; i < what.length; i++) {
            Check.due("the later line holds: count(" + what[i] + ")", least[i], x.count(what[i]));
        }
        Told.street(x, "ill 100;pace 9;price 50;day 30;month 999");
        int[] greatest = {100, 9, 50, 30, 999};
        for (int i = 0; i < what.length; i++) {
            Check.due("the bounds: count(" + what[i] + ")", greatest[i], x.count(what[i]));
        }
        Check.due("14 lines", 7, Told.street(x, "ill 1;".repeat(13) + "ill 14"));
        Check.due("ill 14", 14, x.count(6));
        Told.street(x, P + P + "person at 1 free 1");
        Check.due("six people of several texts", 6, x.count(0));
        Told.street(x, ("duty of 5 takes 1;").repeat(6) + "duty of 5 takes 1 on 10");
        Check.due("twelve duties of several texts", 12, x.count(1));
        Told.text(x, "person at 1 free 1");
        Check.argument("a seventh person in a later text", x::street);
        Check.due("at its first word", 0, x.fault());
        Told.text(x, "ill 1;duty of 0 takes 1");
        Check.argument("a thirteenth duty in a later text", x::street);
        Check.due("at its first word", 6, x.fault());
    }

    private static void row(String name, PutOffParade x, boolean person, int number, int... due) {
        for (int what = 0; what < due.length; what++) {
            Check.due(name + " what " + what, due[what], person ? x.person(number, what) : x.duty(number, what));
        }
    }

    private static void wrongStreets() {
        for (String text : WRONG_STREETS) {
            if (text.indexOf('|') >= 0) {
                PutOffParade x = new PutOffParade();
                Told.text(x, text.replace("|", ""));
                Check.promise(4);
                Check.argument("street: " + text, x::street);
                Check.promise(6);
                Check.due("street: " + text, text.indexOf('|'), x.fault());
                Check.due("no text stays: " + text, 0, x.count(2));
            }
        }
    }

    private static void refusedStreets() {
        Check.promise(4);
        PutOffParade x = new PutOffParade();
        for (int n = 1; n <= 11; n++) {
            Check.due("text " + n, n, Told.street(x, "ill " + n));
        }
        Told.text(x, "ill");
        Check.argument("a wrong one is none of the twelve", x::street);
        Check.due("text 12", 12, Told.street(x, "person at 1 free 1;ill 12"));
        x.free(0, 2);
        Told.text(x, "ill 13");
        Check.refused("text 13", UnsupportedOperationException.class, x::street);
        Check.due("fault() of a right one that is refused", -1, x.fault());
        Check.due("the tape is used up", false, x.end(1));
        Check.due("nothing changed: ill", 12, x.count(6));
        Check.due("nothing changed: texts", 12, x.count(2));
        Check.due("nothing changed: acts", 1, x.count(14));
        Told.text(x, "ill 13;");
        Check.argument("a wrong text 13", x::street);
        Check.due("its fault", 7, x.fault());
        Told.text(x, "");
        Check.refused("an empty text 13", UnsupportedOperationException.class, x::street);
        Check.due("fault() of an empty one", -1, x.fault());
        Check.due("a law is no text of the street", 1, Told.law(x, "grow 1"));
    }

    private static void nothingStaysOfWrongStreets() {
        Check.promise(4);
        PutOffParade x = Told.of("person at 2 free 3;duty of 0 takes 4");
        x.put(0);
        Told.text(x, "person at 5 free 5;duty of 1 takes 9;forgotten 0;ill 50;pace 5;price 5;day 5;month 5;ill 101");
        Check.argument("wrong at its end", x::street);
        int[] counts = {1, 1, 1, -1, 1, 0, 0, 2, 3, 1, 0, 1, 1, 0, 1};
        for (int what = 0; what < counts.length; what++) {
            Check.due("count(" + what + ")", counts[what], x.count(what));
        }
        Check.due("its act can be undone", true, x.undo());
    }

    private static void rightLaws() {
        Check.promise(5);
        PutOffParade x = Told.of("person at 2 free 3;duty of 0 takes 4 age 7");
        Check.due("without a law", -1, x.count(3));
        Check.due("shames by its age", 7, x.duty(0, 8));
        Check.due("an empty law", 0, Told.law(x, ""));
        Check.due("has no line", 0, x.count(3));
        Check.due("blanks alone", 0, Told.law(x, "   "));
        Check.due("three lines", 3, Told.law(x, " grow 60 ; shame 5;ease 3  "));
        Check.due("count(3)", 3, x.count(3));
        Check.due("grows", 60, x.duty(0, 7));
        Check.due("shames", 9, x.duty(0, 8));
        Check.due("in place of the one before", 4, Told.law(x, "grow 0;grow 7;grow 008;ease 60"));
        Check.due("grows by the sum", 15, x.duty(0, 7));
        Check.due("shames by 0 at least", 0, x.duty(0, 8));
        Told.text(x, "grow 1;shame");
        Check.argument("a wrong law", x::law);
        Check.due("the law stays", 4, x.count(3));
        Check.due("and holds", 15, x.duty(0, 7));
        Check.due("twelve lines", 12, Told.law(x, "grow 60;".repeat(11) + "grow 60"));
        Check.due("grows by all", 720, x.duty(0, 7));
        Check.due("back to none of it", 0, Told.law(x, ""));
        Check.due("grows by nothing", 0, x.duty(0, 7));
    }

    /** Of duty 3 of this street: left 7, age 12, no tool, owner 1, kerb 9, day 20; it leans on 2, which waits. */
    private static void conditions() {
        Check.promise(5);
        String street = "person at 3 free 0;person at 9 free 0;day 20;duty of 0 takes 1;duty of 0 takes 1 tool 4;"
            + "duty of 0 takes 30 age 11;duty of 1 takes 7 age 12 on 2";
        String[] holding = {
            "old", "not ready", "not not old", "duty > 2", "duty < 4", "left > 6", "left < 8", "age > 11", "age < 13", "tool > 8",
            "tool < 10", "owner > 0", "owner < 2", "kerb > 8", "kerb < 10", "day > 19", "day < 21", "0 < 1", "999 > 998",
            "left + age > 18", "left + age < 20", "left + age + kerb + day + tool + owner + duty + 100 > 160",
            "left + age + kerb + day + tool + owner + duty + 100 < 162", "160<left+age+kerb+day+tool+owner+duty+100",
            "ready or old", "old or ready", "old and not ready", "not (ready and old)", "not (ready or not old)", "ready and old or old",
            "old or old and ready", "(old or old) and old", "not ready and old", "not ready or ready", "((((((old))))))",
            "not not not not not not old", "not(not(not 1<0))", "(old) and (not ready)", "not (age < 12) and not (left > 7)",
            "ready and ready or old and old", "(ready or old) and (old or ready)", "not age < 3", "not 3 > age", "old and old and old",
            "ready or ready or old", "not (not old or ready) and (not (ready) or ready)", "old and(not(ready or(ready)))",
        };
        String[] readyOnes = {"ready and 1 < 2", "not (ready and 2 < 1)", "ready and ready", "1 < 2 and ready", "not not ready", "not ready or ready"};
        String[] failing = {
            "ready", "not old", "old and ready", "ready or not old", "duty > 3", "duty < 3", "left > 7", "left < 7", "age < 12",
            "age > 12", "tool > 9", "tool < 9", "owner > 1", "owner < 1", "kerb > 9", "kerb < 9", "day > 20", "day < 20", "1 < 1", "1 > 1",
            "left + age > 19", "left + age < 19", "(old or old) and ready", "ready and (old or old)", "not (old or ready)",
            "not ready and ready", "not (old) or ready", "not(not(not old))", "ready or ready and old", "not old or ready and old",
            "160 > left+age+kerb+day+tool+owner+duty+100", "(ready) or (not (old or ready) and old)", "old and old and ready",
        };
        for (String condition : holding) {
            PutOffParade x = Told.of(street);
            Told.law(x, "grow 5 if " + condition + ";shame 1");
            Check.due("grow 5 if " + condition, 5, x.duty(3, 7));
        }
        for (String condition : readyOnes) {
            PutOffParade x = Told.of(street);
            Told.law(x, "grow 5 if " + condition);
            Check.due("of a ready one: grow 5 if " + condition, 5, x.duty(0, 7));
        }
        for (String condition : failing) {
            PutOffParade x = Told.of(street);
            Told.law(x, "shame 1;grow 5 if " + condition);
            Check.due("grow 5 if " + condition, 0, x.duty(3, 7));
        }
        PutOffParade x = Told.of(street);
        Told.law(x, "grow 1 if old;grow 2 if ready;grow 4 if tool < 9;grow 8 if duty < 1;grow 16 if kerb < 4;grow 32 if age + left > 40");
        Check.due("of duty 0", 26, x.duty(0, 7));
        Check.due("of duty 1", 22, x.duty(1, 7));
        Check.due("of duty 2", 50, x.duty(2, 7));
        Check.due("of duty 3", 1, x.duty(3, 7));
        Told.law(x, "shame 1 if old;shame 9 if ready;ease 4 if ready;ease 30 if duty > 2;grow 60");
        Check.due("shame of duty 2", 16, x.duty(2, 8));
        Check.due("shame of duty 3", 0, x.duty(3, 8));
        Told.law(x, "grow 10 if left < 8 and day > 19;grow 20 if left < 8 and day > 20;grow 40 if tool > 3 and tool < 5");
        Check.due("both parts", 10, x.duty(3, 7));
        Check.due("its tool", 50, x.duty(1, 7));
    }

    /** As deep as it may be, again and again, and as long as the tape is. */
    private static void longConditions() {
        Check.promise(5);
        PutOffParade x = Told.of("person at 3 free 0;duty of 0 takes 1 age 20");
        Told.law(x, "grow 5 if " + "((((((old))))))" + " and ((((((old))))))".repeat(9));
        Check.due("ten times six deep", 5, x.duty(0, 7));
        Told.law(x, "grow 5 if " + "not not not not not not old" + " and not not not not not not old".repeat(9));
        Check.due("ten times six nots", 5, x.duty(0, 7));
        Told.law(x, "grow 5 if (old and (old and (old and (old and (not ready or old and 1 + 2 < 4)))))");
        Check.due("joined six deep", 5, x.duty(0, 7));
        Told.law(x, "grow 5 if " + "ready or ".repeat(42) + "old or ready");
        Check.due("many ors", 5, x.duty(0, 7));
        String ones = "1" + "+1".repeat(192);
        Check.due("a long sum", 1, Told.law(x, "grow 5if" + ones + ">193"));
        Check.due("is not above itself", 0, x.duty(0, 7));
        String filled = "grow5if1+" + ones + ">193";
        Check.due("a longer text", 398, filled.length());
        Check.due("is read", 1, Told.law(x, filled + "  "));
        Check.due("is one above", 5, x.duty(0, 7));
        Told.text(x, filled + ";a");
        Check.argument("the tape's last byte is wrong", x::law);
        Check.due("fault", 399, x.fault());
        Told.text(x, filled + "+1");
        Check.due("of 400 bytes", 1, x.law());
        Check.due("is not above itself", 0, x.duty(0, 7));
        Told.text(x, filled + "+;");
        Check.argument("more must come", x::law);
        Check.due("fault", 399, x.fault());
    }

    /** What a wrong text left open is open in no later one. */
    private static void lawsBehindWrongOnes() {
        Check.promise(5);
        PutOffParade x = Told.of("person at 3 free 0;duty of 0 takes 1 age 20");
        String[] wrong = {"grow 1 if ((((((old", "grow 1 if not not not not not not", "grow 1 if old and (old or (", "grow 60;grow 60 if (", "shame 1 if not 5"};
        for (String text : wrong) {
            Told.text(x, text);
            Check.argument(text, x::law);
            Check.due("behind it: ((((((old))))))", 1, Told.law(x, "grow 7 if ((((((old))))))"));
            Check.due("grows", 7, x.duty(0, 7));
            Told.text(x, text);
            Check.argument(text, x::law);
            Told.text(x, "grow 7 if old)");
            Check.argument("behind it: old)", x::law);
            Check.due("fault", 13, x.fault());
        }
    }

    private static void wrongLaws() {
        for (String text : WRONG_LAWS) {
            PutOffParade x = new PutOffParade();
            Told.text(x, text.replace("|", ""));
            Check.promise(5);
            Check.argument("law: " + text, x::law);
            Check.promise(6);
            Check.due("law: " + text, text.indexOf('|'), x.fault());
            Check.due("no law stays: " + text, -1, x.count(3));
        }
    }

    private static void faults() {
        Check.promise(6);
        PutOffParade x = new PutOffParade();
        Check.due("ahead of any", -1, x.fault());
        Told.text(x, "ill 3;price");
        Check.argument("wrong", x::street);
        Check.due("fault", 11, x.fault());
        Check.due("it stays", 11, x.fault());
        x.image();
        Told.law(x, "grow 3");
        Check.due("the latest text is right", -1, x.fault());
        Told.text(x, "  grow");
        Check.argument("wrong", x::law);
        Check.due("also of a law", 6, x.fault());
        Check.due("back()", true, x.back());
        Check.due("THE IMAGE is without it", 6, x.fault());
        Told.bytes(x, 1);
        Check.argument("no pair of kerbs", x::whose);
        Check.due("which is no text", 6, x.fault());
        Told.bytes(x, 16, 16);
        Check.argument("no kerbs", x::ask);
        Check.due("which is no text either", 6, x.fault());
        Told.street(x, "person at 1 free 1;duty of 0 takes 5");
        x.put(0);
        Told.text(x, "q");
        Check.argument("wrong", x::law);
        x.undo();
        Check.due("undo leaves it", 0, x.fault());
    }
}
