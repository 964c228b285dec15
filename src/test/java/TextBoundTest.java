/** Sentences of Terms, THE STREET and THE LAW that name a boundary: just below, at, and just above it. */
public final class TextBoundTest {
    private static final String P = "person at 1 free 1;";
    private static final String D = "duty of 0 takes 5;";
    private static final String PD = "person at 1 free 1;duty of 0 takes 5";

    public static void main(String[] args) {
        people();
        duties();
        optional();
        states();
        ready();
        dayAndMonth();
        illPaceAndPrice();
        personByThen();
        dutyByThen();
        forgotten();
        digits();
        lawInPlaceOfTheOneBefore();
        numbersOfLawLines();
        numbersInSums();
        tools();
        old();
        sums();
        linesThatHold();
        ease();
        words();
        blanks();
        noLine();
        deep();
        firstWrongByte();
        tooMany();
        moreMustCome();
        nothingStays();
        faultOfTheLatest();
        Check.close("TextBoundTest", 4, 5, 6, 8);
    }

    private static int count(String street, int what) {
        return Told.of(street).count(what);
    }

    private static void people() {
        Check.sentence(4, "a KERB 0 to 15 where one stands");
        Check.due("KERB 0", 0, Told.of("person at 0 free 1").person(0, 0));
        Check.due("KERB 15", 15, Told.of("person at 15 free 1").person(0, 0));
        Told.wrongStreet("person at |16 free 1");
        Told.wrongStreet("person at |-1 free 1");
        Check.sentence(4, "FREE 0 to 9 hours a day");
        Check.due("FREE 0", 0, Told.of("person at 1 free 0").person(0, 1));
        Check.due("FREE 9", 9, Told.of("person at 1 free 9").person(0, 1));
        Told.wrongStreet("person at 1 free |10");
        Told.wrongStreet("person at 1 free |-1");
    }

    private static void duties() {
        Check.sentence(4, "LEFT 1 to 99 hours");
        Check.due("LEFT 1", 1, Told.of(P + "duty of 0 takes 1").duty(0, 1));
        Check.due("LEFT 99", 99, Told.of(P + "duty of 0 takes 99").duty(0, 1));
        Told.wrongStreet(P + "duty of 0 takes |0");
        Told.wrongStreet(P + "duty of 0 takes |100");
        Check.sentence(4, "takes: 1 to 99; N of tool: 0 to 5");
        Check.due("the most of both", 5, Told.of(P + "duty of 0 takes 99 tool 5").duty(0, 3));
        Check.due("the least of both", 1, Told.of(P + "duty of 0 takes 1 tool 0").duty(0, 1));
        Told.wrongStreet(P + "duty of 0 takes |100 tool 6");
        Told.wrongStreet(P + "duty of 0 takes 99 tool |6");
        Told.wrongStreet(P + "duty of 0 takes |0 tool 0");
        Check.sentence(4, "AGE 0 to 99 months (0 at first)");
        Check.due("AGE at first", 0, Told.of(P + "duty of 0 takes 1").duty(0, 2));
        Check.due("AGE 0", 0, Told.of(P + "duty of 0 takes 1 age 0").duty(0, 2));
        Check.due("AGE 99", 99, Told.of(P + "duty of 0 takes 1 age 99").duty(0, 2));
        Told.wrongStreet(P + "duty of 0 takes 1 age |100");
        Check.sentence(4, "a TOOL 0 to 5 or none (at first)");
        Check.due("TOOL at first", -1, Told.of(P + "duty of 0 takes 1").duty(0, 3));
        Check.due("TOOL 0", 0, Told.of(P + "duty of 0 takes 1 tool 0").duty(0, 3));
        Check.due("TOOL 5", 5, Told.of(P + "duty of 0 takes 1 tool 5").duty(0, 3));
        Told.wrongStreet(P + "duty of 0 takes 1 tool |6");
        Check.sentence(4, "LEANS on another DUTY or on none (at first)");
        Check.due("LEANS at first", -1, Told.of(P + "duty of 0 takes 1").duty(0, 4));
        Check.due("LEANS on another", 0, Told.of(P + D + "duty of 0 takes 1 on 0").duty(1, 4));
        Told.wrongStreet(P + D + "duty of 0 takes 1 on |1");
    }

    private static void optional() {
        Check.sentence(4, "duty of H takes N [ age N ] [ tool N ] [ on D ]");
        String[] told = {"", " age 7", " tool 3", " on 0", " age 7 tool 3", " age 7 on 0", " tool 3 on 0", " age 7 tool 3 on 0"};
        for (String end : told) {
            PutOffParade x = Told.of(P + D + "duty of 0 takes 1" + end);
            Check.due("AGE by" + end, end.contains("age") ? 7 : 0, x.duty(1, 2));
            Check.due("TOOL by" + end, end.contains("tool") ? 3 : -1, x.duty(1, 3));
            Check.due("LEANS by" + end, end.contains("on") ? 0 : -1, x.duty(1, 4));
        }
        Told.wrongStreet(P + D + "duty of 0 takes 1 tool 3 |age 7");
        Told.wrongStreet(P + D + "duty of 0 takes 1 on 0 |tool 3");
        Told.wrongStreet(P + D + "duty of 0 takes 1 on 0 |age 7");
        Told.wrongStreet(P + D + "duty of 0 takes 1 age 7 |age 7");
        Told.wrongStreet(P + D + "duty of 0 takes 1 tool 3 |tool 3");
        Told.wrongStreet(P + D + "duty of 0 takes 1 on 0 |on 0");
        Told.wrongStreet(P + D + "duty of 0 |age 7 takes 1");
    }

    private static void states() {
        Check.sentence(8, "a STATE: 0 waiting (at first), 1 done, 2 forgotten");
        PutOffParade x = Told.of(P + D + "duty of 0 takes 1;duty of 0 takes 1;forgotten 2");
        Check.due("at first", 0, x.duty(0, 5));
        Check.due("told to be forgotten", 2, x.duty(2, 5));
        x.call(1);
        Check.due("done", 1, x.duty(1, 5));
        x.forget(0);
        Check.due("forgotten", 2, x.duty(0, 5));
        x.recall(2);
        Check.due("remembered", 0, x.duty(2, 5));
        Check.sentence(8, "(0, if it is done)");
        Check.due("LEFT of one that was called out", 0, x.duty(1, 1));
        x.days(1);
        Check.due("STATE of one that was worked on", 1, x.duty(2, 5));
        Check.due("LEFT of one that was worked on", 0, x.duty(2, 1));
        Check.due("LEFT of a forgotten one", 5, x.duty(0, 1));
    }

    private static void ready() {
        Check.sentence(8, "A waiting DUTY is READY, if it LEANS on none, or on one that is done");
        PutOffParade x = Told.of("person at 1 free 0;duty of 0 takes 1;duty of 0 takes 1 on 0;duty of 0 takes 1 on 1");
        Check.due("it LEANS on none", 1, x.duty(0, 6));
        Check.due("on one that is waiting", 0, x.duty(1, 6));
        x.forget(0);
        Check.due("on one that is forgotten", 0, x.duty(1, 6));
        Check.due("a forgotten one that LEANS on none", 0, x.duty(0, 6));
        x.recall(0);
        x.call(0);
        Check.due("on one that is done", 1, x.duty(1, 6));
        Check.due("a done one that LEANS on none", 0, x.duty(0, 6));
        Check.due("on one that LEANS on one that is done", 0, x.duty(2, 6));
        x.forget(1);
        Check.due("a forgotten one that LEANS on one that is done", 0, x.duty(1, 6));
        Check.due("READY as bits", 0, x.count(11));
    }

    private static void dayAndMonth() {
        Check.sentence(4, "DAY 1 to 30 of a month (1 at first)");
        Check.due("DAY at first", 1, new PutOffParade().count(4));
        Check.due("DAY 1", 1, count("day 9;day 1", 4));
        Check.due("DAY 30", 30, count("day 30", 4));
        Told.wrongStreet("day |0");
        Told.wrongStreet("day |31");
        Check.sentence(4, "MONTH 0 to 9999 (0 at first)");
        Check.due("MONTH at first", 0, new PutOffParade().count(5));
        Check.sentence(4, "day: 1 to 30; month: 0 to 999");
        Told.wrongStreet("day 30;month 999;day |31");
        Told.wrongStreet("day 1;month 0;day |0");
        Check.due("MONTH 0", 0, count("month 9;month 0", 5));
        Check.due("MONTH 999", 999, count("month 999", 5));
        Told.wrongStreet("month |1000");
    }

    private static void illPaceAndPrice() {
        Check.sentence(4, "ILL 0 to 100 (0 at first)");
        Check.due("ILL at first", 0, new PutOffParade().count(6));
        Check.due("ILL 0", 0, count("ill 9;ill 0", 6));
        Check.due("ILL 100", 100, count("ill 100", 6));
        Told.wrongStreet("ill |101");
        Check.sentence(4, "PACE 1 to 9 (2 at first)");
        Check.due("PACE at first", 2, new PutOffParade().count(7));
        Check.due("PACE 1", 1, count("pace 1", 7));
        Check.due("PACE 9", 9, count("pace 9", 7));
        Told.wrongStreet("pace |0");
        Told.wrongStreet("pace |10");
        Check.sentence(4, "PRICE 0 to 50 (3 at first)");
        Check.due("PRICE at first", 3, new PutOffParade().count(8));
        Check.due("PRICE 0", 0, count("price 0", 8));
        Check.due("PRICE 50", 50, count("price 50", 8));
        Told.wrongStreet("price |51");
    }

    private static void personByThen() {
        Check.sentence(4, "H, D: a PERSON, a DUTY that there is by then");
        Told.wrongStreet("duty of |0 takes 1;person at 1 free 1");
        Check.due("the last one", 1, Told.of(P + P + "duty of 1 takes 1").duty(0, 0));
        Told.wrongStreet(P + P + "duty of |2 takes 1");
        Told.wrongStreet(P + "duty of |1 takes 1;person at 1 free 1");
        PutOffParade x = Told.of("person at 1 free 1");
        Check.due("of an earlier text", 2, Told.street(x, "duty of 0 takes 1"));
        Told.wrongStreet(x, "duty of |1 takes 1");
    }

    private static void dutyByThen() {
        Check.sentence(4, "a DUTY that there is by then");
        Told.wrongStreet(P + "duty of 0 takes 1 on |0");
        Check.due("the last one", 1, Told.of(P + D + D + "duty of 0 takes 1 on 1").duty(2, 4));
        Told.wrongStreet(P + D + D + "duty of 0 takes 1 on |2");
        Told.wrongStreet(P + D + "duty of 0 takes 1 on |1;duty of 0 takes 1");
        Told.wrongStreet("forgotten |0;person at 1 free 1;duty of 0 takes 1");
        Check.due("the last one is forgotten", 2, Told.of(P + D + D + "forgotten 1").duty(1, 5));
        Told.wrongStreet(P + D + D + "forgotten |2");
        PutOffParade x = Told.of(P + "duty of 0 takes 5");
        Told.wrongStreet(x, "forgotten |1");
        Check.due("of an earlier text", 2, Told.street(x, "duty of 0 takes 1 on 0;forgotten 0;forgotten 1"));
        Check.due("on one of an earlier text", 0, x.duty(1, 4));
        Check.due("two are forgotten", 3, x.lost());
    }

    private static void forgotten() {
        Check.sentence(4, "of forgotten D: a waiting one, else it is wrong");
        PutOffParade x = Told.of(P + D + "duty of 0 takes 1;duty of 0 takes 9");
        x.call(1);
        Told.wrongStreet(x, "forgotten |1");
        Check.due("a waiting one", 2, Told.street(x, "forgotten 0"));
        Told.wrongStreet(x, "forgotten |0");
        Told.wrongStreet(x, "forgotten 2;forgotten |2");
        x.recall(0);
        Check.due("a waiting one again", 3, Told.street(x, "forgotten 0"));
        Check.due("LOST", 1, x.lost());
    }

    private static void digits() {
        Check.sentence(4, "Numbers are of 1 to 3 digits");
        Told.wrongStreet("ill|");
        Told.wrongStreet("ill |;pace 2");
        Check.due("1 digit", 7, count("ill 7", 6));
        Check.due("2 digits", 7, count("ill 07", 6));
        Check.due("3 digits", 7, count("ill 007", 6));
        Told.wrongStreet("ill |0007");
        Told.wrongStreet("ill |0000");
        Told.wrongStreet("month |00999");
        Told.wrongStreet("ill |4294967303");
        Told.wrongStreet("ill |18446744073709551617");
        String[] ahead = {"person at ", "person at 1 free ", P + "duty of ", P + "duty of 0 takes ", P + "duty of 0 takes 1 age ", P + "duty of 0 takes 1 tool ",
            P + D + "duty of 0 takes 1 on ", P + D + "forgotten ", "ill ", "pace ", "price ", "day ", "month "};
        for (String begun : ahead) {
            for (String number : new String[] {"0000", "0001", "1000", "9999", "00000", "4294967296", "-1", "+1"}) {
                Told.wrongStreet(begun + "|" + number);
                Told.wrongStreet(begun + "|" + number + " ;ill 1");
                Told.wrongStreet(begun + "|" + number + " free 1");
            }
        }
    }

    private static void lawInPlaceOfTheOneBefore() {
        Check.sentence(5, "(a text, in place of the one before)");
        PutOffParade x = Told.of(PD, "grow 1;shame 2;grow 4");
        Check.due("three LINES", 3, x.count(3));
        Check.due("GROWS", 5, x.duty(0, 7));
        Check.due("one LINE", 1, Told.law(x, "grow 7"));
        Check.due("GROWS by it alone", 7, x.duty(0, 7));
        Check.due("SHAMES by none of the one before", 0, x.duty(0, 8));
        Check.due("no LINE", 0, Told.law(x, ""));
        Check.due("GROWS by none", 0, x.duty(0, 7));
    }

    private static void numbersOfLawLines() {
        Check.sentence(5, "(N 0 to 60)");
        Check.due("grow 0", 0, Told.of(PD, "grow 0").duty(0, 7));
        Check.due("grow 60", 60, Told.of(PD, "grow 60").duty(0, 7));
        Check.due("shame 0", 0, Told.of(PD, "shame 0").duty(0, 8));
        Check.due("shame 60", 60, Told.of(PD, "shame 60").duty(0, 8));
        Check.due("ease 0", 9, Told.of(P + "duty of 0 takes 1 age 9", "ease 0").duty(0, 8));
        Check.due("ease 60", 39, Told.of(P + "duty of 0 takes 1 age 99", "ease 60").duty(0, 8));
        for (String word : new String[] {"grow", "shame", "ease"}) {
            Told.wrongLaw(word + " |61");
            Told.wrongLaw(word + " |-1");
        }
    }

    private static void numbersInSums() {
        Check.sentence(5, "All numbers are of 1 to 3 digits");
        PutOffParade x = Told.of(PD);
        Told.law(x, "grow 1 if 999 > 998;grow 2 if 0 < 001;grow 4 if 000 < 1;grow 8 if 7 < 10");
        Check.due("GROWS", 15, x.duty(0, 7));
        Told.wrongLaw("grow 1 if |1000 > 998");
        Told.wrongLaw("grow 1 if 1 < |0999");
        Told.wrongLaw("grow 1 if 1 < 1 + |0000");
        Told.wrongLaw("grow |0001");
        Told.wrongLaw("grow|");
        Told.wrongLaw("grow 1 if 1 <|");
    }

    private static void tools() {
        Check.sentence(5, "tool: its TOOL (9: none)");
        PutOffParade x = Told.of(P + D + "duty of 0 takes 1 tool 0;duty of 0 takes 1 tool 5");
        Told.law(x, "grow 1 if tool < 9;grow 2 if tool > 8 and tool < 10;grow 4 if tool < 1;grow 8 if tool > 4 and tool < 6");
        Check.due("of none", 2, x.duty(0, 7));
        Check.due("of TOOL 0", 5, x.duty(1, 7));
        Check.due("of TOOL 5", 9, x.duty(2, 7));
    }

    private static void old() {
        Check.sentence(5, "old: AGE is above 11");
        PutOffParade x = Told.of(P + "duty of 0 takes 1 age 10;duty of 0 takes 1 age 11;duty of 0 takes 1 age 12;duty of 0 takes 1 age 99", "grow 1 if old");
        Check.due("AGE 10", 0, x.duty(0, 7));
        Check.due("AGE 11", 0, x.duty(1, 7));
        Check.due("AGE 12", 1, x.duty(2, 7));
        Check.due("AGE 99", 1, x.duty(3, 7));
    }

    private static void sums() {
        Check.sentence(5, "SUM < SUM | SUM > SUM");
        PutOffParade x = Told.of(PD);
        Told.law(x, "grow 1 if left < 5;grow 2 if left > 5;grow 4 if left < 6;grow 8 if left > 4;grow 16 if left + 1 > 5;grow 32 if left + 1 < 6");
        Check.due("of LEFT 5", 28, x.duty(0, 7));
    }

    private static void linesThatHold() {
        Check.sentence(5, "GROWS by: the sum of N of all grow LINES that hold");
        Check.due("of no LINE", 0, Told.of(PD, "shame 9;ease 9").duty(0, 7));
        Check.due("of none that holds", 0, Told.of(PD, "grow 9 if old;grow 9 if left > 5").duty(0, 7));
        Check.due("of all that hold", 13, Told.of(PD, "grow 9;grow 5 if old;grow 4 if ready").duty(0, 7));
        Check.due("as long as it is told", 720, Told.of(PD, "grow 60;".repeat(11) + "grow 60").duty(0, 7));
    }

    private static void ease() {
        Check.sentence(5, "less that of all ease LINES (0 at least)");
        PutOffParade x = Told.of(P + "duty of 0 takes 1 age 5;duty of 0 takes 1 age 6;duty of 0 takes 1 age 7;duty of 0 takes 1", "ease 2;ease 4");
        Check.due("AGE 5 less 6", 0, x.duty(0, 8));
        Check.due("AGE 6 less 6", 0, x.duty(1, 8));
        Check.due("AGE 7 less 6", 1, x.duty(2, 8));
        Check.due("of all together: none is below 0", 1, x.count(12));
        Told.law(x, "ease 6;shame 7");
        Check.due("AGE 0 and 7 less 6", 1, x.duty(3, 8));
        Told.law(x, "ease 60;shame 60");
        Check.due("AGE 7 and 60 less 60", 7, x.duty(2, 8));
    }

    private static void words() {
        Check.sentence(4, "Words are as long as a to z go on");
        Check.due("a digit ends it", 5, count("ill5", 6));
        Check.due("a word ends a number", 1, Told.of("person at3free1").count(0));
        Told.wrongStreet("|illl 5");
        Told.wrongStreet("|il 5");
        Told.wrongStreet("|illz5");
        Told.wrongStreet("|illa5");
        Told.wrongStreet("ill|{5");
        Told.wrongStreet("ill|`5");
        Told.wrongStreet("ill|A5");
        Told.wrongStreet("|Ill 5");
        Told.wrongStreet("|`ill 5");
        Told.wrongStreet("|{ill 5");
        Told.wrongStreet("ill 5|:");
        Told.wrongStreet("ill 5|/");
        Told.wrongStreet("ill |/5");
        Told.wrongStreet("ill |:5");
        Told.wrongStreet("|personat 3 free 1");
        Told.wrongLaw("|growif 5");
        Told.wrongLaw("grow 5 if |oldold");
    }

    private static void blanks() {
        Check.sentence(4, "between all there may be blanks (32), also ahead and behind");
        PutOffParade x = Told.of("   person   at   3   free   4   ;   ill   5   ;pace3   ");
        Check.due("KERB", 3, x.person(0, 0));
        Check.due("ILL", 5, x.count(6));
        Check.due("PACE", 3, x.count(7));
        Told.law(x, "   grow   5   if   (   not   left   +   1   <   2   )   and   ready   or   old   ;shame1if(not(old))   ");
        Check.due("two LINES", 2, x.count(3));
        for (char sign : new char[] {0, 9, 10, 13, 31, 33, 127, 160, 255}) {
            Told.wrongStreet("ill|" + sign + "5");
            Told.wrongStreet("|" + sign + "ill 5");
            Told.wrongStreet("ill 5|" + sign);
            Told.wrongLaw("grow|" + sign + "5");
        }
        Told.wrongStreet("|il l 5");
        Told.wrongStreet("ill 1 |0");
    }

    private static void noLine() {
        Check.sentence(4, "A text that is empty, or blanks alone, has no LINE");
        PutOffParade x = Told.of("person at 1 free 1");
        Check.due("an empty street", 2, Told.street(x, ""));
        Check.due("one blank", 3, Told.street(x, " "));
        Check.due("400 blanks", 4, Told.street(x, " ".repeat(400)));
        Check.due("nothing more", 1, x.count(0));
        Check.due("an empty law", 0, Told.law(x, ""));
        Check.due("a law of a blank", 0, Told.law(x, " "));
        Check.due("a law of 400 blanks", 0, Told.law(x, " ".repeat(400)));
        Check.due("no LINE, but THE LAW", 0, x.count(3));
        Check.due("fault", -1, x.fault());
        Told.wrongStreet(" |;");
        Told.wrongStreet("ill 5; |;ill 5");
        Told.wrongLaw(" |;");
        Told.wrongLaw("grow 5; |;grow 5");
    }

    private static void deep() {
        Check.sentence(5, "( and not within one another at most 6 deep");
        String[] right = {"(((((old)))))", "((((((old))))))", "not not not not not old", "not not not not not not old", "not (not (not (old)))",
            "(not (not (not old)))", "((((((old)))))) and ((((((old))))))", "((((((old)))))) or not not not not not not old",
            "(old) and (old) and (old) and (old) and (old) and (old) and (old) and not old", "not (((((old))))) or (not (((old)) and (not old)))"};
        for (String condition : right) {
            Check.due(condition, 1, Told.law(new PutOffParade(), "grow 5 if " + condition));
        }
        Told.wrongLaw("grow 5 if (((((( |(old)))))))");
        Told.wrongLaw("grow 5 if ((((((|not old))))))");
        Told.wrongLaw("grow 5 if not not not not not not |not old");
        Told.wrongLaw("grow 5 if not not not not not not |(old)");
        Told.wrongLaw("grow 5 if not (not (not (|not old)))");
        Told.wrongLaw("grow 5 if not (not (not (|(old))))");
        Told.wrongLaw("grow 5 if ((((((old)))))) and ((((((|(old");
        Told.wrongLaw("grow 5 if ((((((old and |not old))))))");
        Told.wrongLaw("grow 5 if ((((((old or |(old)))))))");
    }

    private static void firstWrongByte() {
        Check.sentence(6, "the begin of the first thing that cannot stand there");
        Told.wrongStreet("ill |101;pace 10");
        Told.wrongStreet("  ill  5  ;  |walk  ;  talk");
        Told.wrongStreet("ill 5;ill 5 |ill 5");
        Told.wrongStreet("ill 5|,");
        Told.wrongLaw("grow 5 if |and or");
        Check.sentence(6, "a number of more digits");
        Told.wrongStreet("ill |0005");
        Told.wrongLaw("grow |0005");
        Check.sentence(6, "or out of its bounds");
        Told.wrongStreet("pace |0;pace 10");
        Told.wrongLaw("grow |61 if");
        Check.sentence(6, "or that tells none that can be");
        Told.wrongStreet(P + "duty of |1 takes 1");
        Told.wrongStreet(P + D + "duty of 0 takes 1 on |9");
        Told.wrongStreet(P + D + "forgotten 0;forgotten |0");
        Check.sentence(6, "a word that is none");
        Told.wrongStreet("|walk 5");
        Told.wrongStreet("person |to 5");
        Told.wrongLaw("|tax 5");
        Told.wrongLaw("grow 5 if |month < 3");
        Told.wrongLaw("grow 5 if |person < 3");
        Check.sentence(6, "the ( or not that is a 7th one deep");
        Told.wrongLaw("grow 5 if ((((((|(old");
        Told.wrongLaw("grow 5 if (((((( |not old");
    }

    private static void tooMany() {
        Check.sentence(6, "of a LINE, a PERSON, a DUTY too many, the first word");
        Told.wrongStreet("ill 1;".repeat(14) + "  |ill 1");
        Told.wrongStreet("ill 1;".repeat(14) + "|person at 99");
        Told.wrongLaw("grow 1;".repeat(12) + " |shame 99");
        Told.wrongStreet(P.repeat(6) + " |person at 99");
        Told.wrongStreet(P + D.repeat(12) + " |duty of 99");
        PutOffParade x = Told.of(P.repeat(5) + "person at 1 free 1");
        Told.wrongStreet(x, "|person");
        Told.wrongStreet(x, "ill 3;|person at 1 free 1");
        Told.street(x, D.repeat(11) + "duty of 5 takes 1");
        Told.wrongStreet(x, "|duty");
        Told.wrongStreet(x, "ill 3;|duty of 0 takes 1");
    }

    private static void moreMustCome() {
        Check.sentence(6, "or the text's length, if more must come");
        String[] street = {"person", "person at", "person at 1", "person at 1 free", P + "duty", P + "duty of", P + "duty of 0", P + "duty of 0 takes",
            P + "duty of 0 takes 1 age", P + "duty of 0 takes 1 tool", P + D + "duty of 0 takes 1 on", P + D + "forgotten", "ill", "pace", "price", "day",
            "month", "ill 1;", "ill 1;".repeat(13)};
        for (String text : street) {
            Told.wrongStreet(text + "|");
            Told.wrongStreet(text + "   |");
        }
        String[] law = {"grow", "shame", "ease", "grow 1;", "grow 1 if", "grow 1 if not", "grow 1 if (", "grow 1 if (old", "grow 1 if old and", "grow 1 if old or",
            "grow 1 if age", "grow 1 if age +", "grow 1 if age <", "grow 1 if age > 3 +", "grow 1 if 5", "grow 1;".repeat(11)};
        for (String text : law) {
            Told.wrongLaw(text + "|");
            Told.wrongLaw(text + "   |");
        }
    }

    private static void nothingStays() {
        Check.sentence(4, "Of a wrong text nothing stays");
        PutOffParade x = Told.of(PD, "grow 3;shame 4");
        x.put(0);
        String ahead = Seen.street(x);
        Told.wrongStreet(x, "person at 5 free 5;duty of 1 takes 9;forgotten 0;ill 50;pace 5;price 5;day 5;month 5;|");
        Check.due("behind a wrong street", ahead, Seen.street(x));
        Told.wrongLaw(x, "grow 9;shame 9;ease 9;grow 9 if old;|;");
        Check.due("behind a wrong law", ahead, Seen.street(x));
        PutOffParade y = new PutOffParade();
        Told.wrongLaw(y, "grow 1;|");
        Check.due("no LAW without one", -1, y.count(3));
    }

    private static void faultOfTheLatest() {
        Check.sentence(6, "The first wrong byte of the latest text that was read; NONE without one, and ahead of any");
        PutOffParade x = new PutOffParade();
        Check.due("ahead of any", -1, x.fault());
        Told.wrongStreet(x, "ill |101");
        Check.due("it stays", 4, x.fault());
        Told.street(x, "ill 100");
        Check.due("a right street has none", -1, x.fault());
        Told.wrongLaw(x, "  |tax");
        Told.law(x, "");
        Check.due("a right law has none", -1, x.fault());
        Told.wrongLaw(x, "|law");
        Told.bytes(x, 1, 16);
        Check.argument("KERBS are no text", x::whose);
        Check.due("it is that of the law", 0, x.fault());
    }
}
