import java.util.Arrays;
import java.util.List;

/** Each word, number and sign behind each beginning of a line: what can stand there is taken, else it is the first wrong byte. */
public final class GrammarTest {
    private static final String TWO = "person at 1 free 1;person at 1 free 1;duty of 0 takes 5;duty of 0 takes 5;";
    private static final String[] THINGS = {
        "person", "at", "free", "duty", "of", "takes", "age", "tool", "on", "forgotten", "ill", "pace", "price", "day", "month", "grow", "shame", "ease",
        "if", "or", "and", "not", "ready", "old", "left", "owner", "kerb", "1", ";", "(", ")", "<", ">", "+", "=", ",", ".", "-", "word", "a", "z", "A", "_",
        "\0", "\t", "\n", "\177", "\240", "\377",
    };
    private static final String FIRST = "person duty forgotten ill pace price day month";
    private static final String PARTS = "1 duty left age tool owner kerb day";
    private static final String ATOMS = "not ( ready old " + PARTS;

    public static void main(String[] args) {
        streets();
        laws();
        Check.close("GrammarTest", 4, 5);
    }

    private static void streets() {
        Check.sentence(4, "person at N free N | duty of H takes N [ age N ] [ tool N ] [ on D ] | forgotten D | ill N | pace N | price N | day N | month N");
        street("", FIRST);
        street("ill 1;", FIRST);
        street("person ", "at");
        street("person at ", "1");
        street("person at 1 ", "free");
        street("person at 1 free ", "1");
        street("person at 1 free 1 ", ";");
        street("duty ", "of");
        street("duty of ", "1");
        street("duty of 1 ", "takes");
        street("duty of 1 takes ", "1");
        street("duty of 1 takes 1 ", "age tool on ;");
        street("duty of 1 takes 1 age ", "1");
        street("duty of 1 takes 1 age 1 ", "tool on ;");
        street("duty of 1 takes 1 tool ", "1");
        street("duty of 1 takes 1 tool 1 ", "on ;");
        street("duty of 1 takes 1 on ", "1");
        street("duty of 1 takes 1 on 1 ", ";");
        street("duty of 1 takes 1 age 1 tool 1 on 1 ", ";");
        street("forgotten ", "1");
        street("forgotten 1 ", ";");
        for (String word : new String[] {"ill", "pace", "price", "day", "month"}) {
            street(word + " ", "1");
            street(word + " 1 ", ";");
        }
    }

    private static void laws() {
        Check.sentence(5, "C: ALL { or ALL }; ALL: ATOM { and ATOM }; ATOM: not ATOM | ( C ) | ready | old | SUM < SUM | SUM > SUM");
        law("", "grow shame ease");
        law("ease 1;", "grow shame ease");
        for (String word : new String[] {"grow", "shame", "ease"}) {
            law(word + " ", "1");
            law(word + " 1 ", "if ;");
            law(word + " 1 if ", ATOMS);
        }
        law("grow 1 if not ", ATOMS);
        law("grow 1 if ( ", ATOMS);
        law("grow 1 if ready and ", ATOMS);
        law("grow 1 if ready or ", ATOMS);
        law("grow 1 if ready ", "and or ;");
        law("grow 1 if old ", "and or ;");
        law("grow 1 if not ready ", "and or ;");
        law("grow 1 if ( ready ", "and or )");
        law("grow 1 if ( ready ) ", "and or ;");
        law("grow 1 if ( ( old ) ", "and or )");
        Check.sentence(5, "SUM: PART { + PART }; PART: NUMBER | duty | left | age | tool | owner | kerb | day");
        for (String part : PARTS.split(" ")) {
            law("grow 1 if " + part + " ", "+ < >");
            law("grow 1 if " + part + " + ", PARTS);
            law("grow 1 if " + part + " + 1 ", "+ < >");
            law("grow 1 if 1 < " + part + " ", "+ and or ;");
            law("grow 1 if ( 1 > " + part + " ", "+ and or )");
            law("grow 1 if 1 > " + part + " + ", PARTS);
        }
        law("grow 1 if 1 < ", PARTS);
        law("grow 1 if 1 > ", PARTS);
    }

    private static void street(String begun, String fitting) {
        behind(TWO + begun, fitting, true);
    }

    private static void law(String begun, String fitting) {
        behind(begun, fitting, false);
    }

    private static void behind(String begun, String fitting, boolean street) {
        List<String> fits = Arrays.asList(fitting.split(" "));
        for (String thing : THINGS) {
            PutOffParade x = new PutOffParade();
            Told.text(x, begun + thing);
            boolean right = taken(x, street);
            if (!fits.contains(thing)) {
                Check.due("the text is right: " + begun + thing, false, right);
                Check.due("fault of " + begun + thing, begun.length(), x.fault());
            } else {
                Check.due("fault of " + begun + thing, right ? -1 : begun.length() + thing.length(), x.fault());
            }
        }
    }

    private static boolean taken(PutOffParade x, boolean street) {
        try {
            return (street ? x.street() : x.law()) >= 0;
        } catch (IllegalArgumentException e) {
            return false;
        }
    }
}
