import java.io.IOException;
import java.nio.file.Files;
import java.nio.file.Path;
import java.util.ArrayList;
import java.util.List;
import java.util.TreeSet;

/** Counts what is as due, by promise and by sentence of the document, and tells what is not. */
final class Check {
    interface Call { long answer(); }

    private static final Path DOC = Path.of("..", "shared", "DOC.md");

    private static int right;
    private static int wrong;
    private static int promise;
    private static String sentence = "";
    private static final TreeSet<Integer> promises = new TreeSet<>();
    private static final List<String> sentences = new ArrayList<>();

    private Check() { }

    static void promise(int number) {
        promise = number;
        promises.add(number);
        sentence = "";
    }

    /** What follows is the test of these words of the document, which names a boundary by them. */
    static void sentence(int number, String words) {
        if (sentences.isEmpty()) {
            Thread.setDefaultUncaughtExceptionHandler((thread, e) -> {
                System.out.println(where() + "it ends by " + e);
                e.printStackTrace(System.out);
            });
        }
        promise(number);
        sentence = words;
        sentences.add(words);
    }

    private static String where() {
        return "promise " + promise + (sentence.isEmpty() ? "" : ", \"" + sentence + "\"") + ": ";
    }

    private static void count(boolean asDue, String what) {
        if (asDue) {
            right++;
        } else {
            wrong++;
            System.out.println(where() + what);
        }
    }

    static void due(String what, long want, long got) {
        count(want == got, what + " answered " + got + ", due is " + want);
    }

    static void due(String what, boolean want, boolean got) {
        due(what, want ? 1 : 0, got ? 1 : 0);
    }

    static void due(String what, String want, String got) {
        count(want.equals(got), what + " is " + got + ", due is " + want);
    }

    /** The very class is due, not one below it. */
    static void refused(String what, Class<? extends RuntimeException> want, Call call) {
        String got;
        try {
            got = "answered " + call.answer();
        } catch (RuntimeException e) {
            got = e.getClass().getName();
        }
        count(got.equals(want.getName()), what + " " + got + ", due is " + want.getName());
    }

    static void index(String what, Call call) {
        refused(what, IndexOutOfBoundsException.class, call);
    }

    static void argument(String what, Call call) {
        refused(what, IllegalArgumentException.class, call);
    }

    static void state(String what, Call call) {
        refused(what, IllegalStateException.class, call);
    }

    static void element(String what, Call call) {
        refused(what, java.util.NoSuchElementException.class, call);
    }

    /** Ends the test's main: all promises that are due have been looked at, all sentences stand in the document. */
    static void close(String name, int... due) {
        sentence = "";
        for (int number : due) {
            promise = number;
            count(promises.contains(number), "it was not looked at");
        }
        lookUpSentences();
        System.out.println(name + ": " + right + " as due, " + wrong + " not, promises " + promises
            + (sentences.isEmpty() ? "" : ", " + sentences.size() + " sentences"));
        if (wrong > 0 || right == 0) {
            System.exit(1);
        }
    }

    private static void lookUpSentences() {
        if (sentences.isEmpty() || !Files.isReadable(DOC)) {
            return;
        }
        try {
            String doc = Files.readString(DOC);
            for (String words : sentences) {
                count(doc.contains(words), "\"" + words + "\" does not stand in the document");
            }
        } catch (IOException e) {
            count(false, "the document cannot be read: " + e);
        }
    }
}
