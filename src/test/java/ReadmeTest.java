import java.io.IOException;
import java.lang.reflect.InvocationTargetException;
import java.lang.reflect.Method;
import java.nio.file.Files;
import java.nio.file.Path;
import java.util.ArrayList;
import java.util.List;
import java.util.NoSuchElementException;
import java.util.TreeMap;
import java.util.TreeSet;
import java.util.regex.Matcher;
import java.util.regex.Pattern;

/** README.md is held against the class: its example is run, its tables are looked up. */
public final class ReadmeTest {
    private static final Pattern STEP = Pattern.compile("x\\.(\\w+)\\((.*?)\\);\\s*// (throws )?([-\\w]+).*");
    private static final Pattern ROW = Pattern.compile("\\| `(\\w+)\\((.*?)\\)` \\|.*\\|(.*)\\|");
    private static final Pattern BOUNDS = Pattern.compile("(argument|element): ([a-z]+)(?: or ([a-z]+))? is not (\\d+) to (\\d+)");
    private static final TreeMap<String, Method> FACE = new TreeMap<>();

    public static void main(String[] args) throws IOException, IllegalAccessException {
        Check.promise(1);
        for (Method m : PutOffParade.class.getDeclaredMethods()) {
            if (java.lang.reflect.Modifier.isPublic(m.getModifiers())) {
                FACE.put(m.getName(), m);
            }
        }
        List<String> page = Files.readAllLines(Path.of("README.md"));
        example(page);
        callsAndExceptions(page.subList(page.indexOf("### The calls"), page.size()));
        numbers(page, "`person(person, what)`", "person");
        numbers(page, "`duty(duty, what)`", "duty");
        numbers(page, "`ahead(duty, n, what)`", "ahead");
        numbers(page, "`log(ago, what)`", "log");
        numbers(page, "`count(what)`", "count");
        Check.close("ReadmeTest", 1);
    }

    /** A street on which 0 is a right number for each person, duty and hour, and a law, so that no count is NONE. */
    private static PutOffParade plain() {
        return Told.of("person at 3 free 4;person at 5 free 1;duty of 0 takes 6", "shame 2");
    }

    private static String answered(PutOffParade x, Method call, Object... arguments) throws IllegalAccessException {
        try {
            return String.valueOf(call.invoke(x, arguments));
        } catch (InvocationTargetException e) {
            return e.getCause().getClass().getSimpleName();
        }
    }

    private static Object valueOf(String told) {
        if (told.equals("true") || told.equals("false")) {
            return Boolean.valueOf(told);
        }
        return Integer.decode(told);
    }

    private static List<String> partsOf(String arguments) {
        return arguments.isEmpty() ? List.of() : List.of(arguments.split(", "));
    }

    private static void example(List<String> page) throws IllegalAccessException {
        int begin = page.indexOf("```java");
        Check.due("the example stands there", true, begin >= 0);
        PutOffParade x = new PutOffParade();
        int steps = 0;
        for (String line : page.subList(begin + 1, page.size())) {
            if (line.equals("```")) {
                break;
            }
            Matcher step = STEP.matcher(line);
            if (step.matches()) {
                Object[] arguments = partsOf(step.group(2)).stream().map(ReadmeTest::valueOf).toArray();
                Check.due(line, step.group(4), answered(x, FACE.get(step.group(1)), arguments));
                steps++;
            } else {
                Check.due("a line without an answer: " + line, true, line.startsWith("//") || line.endsWith("new PutOffParade();"));
            }
        }
        Check.due("the example has steps", true, steps > 20);
    }

    private static void callsAndExceptions(List<String> page) throws IllegalAccessException {
        TreeSet<String> told = new TreeSet<>();
        for (String line : page) {
            Matcher row = ROW.matcher(line);
            if (row.matches()) {
                String name = row.group(1);
                Check.due("a second row of " + name, true, told.add(name));
                Check.due(name + " is of the face", true, FACE.containsKey(name));
                List<String> parameters = partsOf(row.group(2));
                Check.due("parameters of " + name, FACE.get(name).getParameterCount(), parameters.size());
                Check.due("exceptions of " + name, thrownBy(FACE.get(name)), inFull(row.group(3)));
                bounds(FACE.get(name), parameters, row.group(3));
            }
        }
        Check.due("calls of the page", String.join(" ", FACE.keySet()), String.join(" ", told));
    }

    private static String thrownBy(Method call) {
        List<String> names = new ArrayList<>();
        for (Class<?> thrown : call.getExceptionTypes()) {
            names.add(thrown.getSimpleName());
        }
        return String.join(" ", names);
    }

    private static String inFull(String cell) {
        List<String> names = new ArrayList<>();
        for (String told : cell.split(";")) {
            String name = told.strip().split(":")[0];
            switch (name) {
                case "index": names.add("IndexOutOfBoundsException"); break;
                case "argument": names.add("IllegalArgumentException"); break;
                case "state": names.add("IllegalStateException"); break;
                case "element": names.add("NoSuchElementException"); break;
                default: names.add(name); break;
            }
        }
        return String.join(" ", names);
    }

    private static void bounds(Method call, List<String> parameters, String cell) throws IllegalAccessException {
        Matcher told = BOUNDS.matcher(cell);
        while (told.find()) {
            String thrown = inFull(told.group(1));
            int low = Integer.parseInt(told.group(4));
            int high = Integer.parseInt(told.group(5));
            for (String name : new String[] {told.group(2), told.group(3)}) {
                if (name != null) {
                    int place = parameters.indexOf(name);
                    Check.due(call.getName() + " has a number " + name, true, place >= 0);
                    refusal(call, place, low - 1, thrown, true);
                    refusal(call, place, low, thrown, false);
                    refusal(call, place, high, thrown, false);
                    refusal(call, place, high + 1, thrown, true);
                }
            }
        }
    }

    private static void refusal(Method call, int place, int number, String thrown, boolean want) throws IllegalAccessException {
        Object[] arguments = new Object[call.getParameterCount()];
        for (int i = 0; i < arguments.length; i++) {
            arguments[i] = call.getParameterTypes()[i] == boolean.class ? (Object) Boolean.FALSE : (Object) Integer.valueOf(0);
        }
        arguments[place] = number;
        String answer = answered(plain(), call, arguments);
        Check.due(call.getName() + " of " + number + ": " + answer, want, answer.equals(thrown));
    }

    /** The first column of the table behind the heading is just what the class has an answer for. */
    private static void numbers(List<String> page, String heading, String name) throws IllegalAccessException {
        TreeSet<Integer> told = new TreeSet<>();
        int first = page.indexOf(heading) + 4;
        Check.due("the table of " + name + " stands there", true, first >= 4);
        for (int i = first; i < page.size() && page.get(i).startsWith("| "); i++) {
            told.add(Integer.valueOf(page.get(i).split("\\|")[1].strip()));
        }
        TreeSet<Integer> known = new TreeSet<>();
        Method call = FACE.get(name);
        Object[] arguments = new Object[call.getParameterCount()];
        java.util.Arrays.fill(arguments, 0);
        for (int what = -2; what < 40; what++) {
            arguments[arguments.length - 1] = what;
            String answer = answered(plain(), call, arguments);
            boolean unknown = name.equals("count") ? answer.equals("-1") : answer.equals(NoSuchElementException.class.getSimpleName());
            if (!unknown) {
                known.add(what);
            }
        }
        Check.due("numbers of " + name, known.toString(), told.toString());
    }
}
