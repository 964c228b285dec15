import java.lang.reflect.Constructor;
import java.lang.reflect.Field;
import java.lang.reflect.Method;
import java.lang.reflect.Modifier;
import java.util.TreeSet;

/** The face is just that of the document, and a new object is a street without people. */
public final class FaceTest {
    private static final String[] FACE = {
        "int feed(int,int,int,int,int)", "boolean end(int)",
        "int street() IllegalArgumentException UnsupportedOperationException",
        "int law() IllegalArgumentException", "int fault()",
        "int person(int,int) IndexOutOfBoundsException NoSuchElementException",
        "int duty(int,int) IndexOutOfBoundsException NoSuchElementException",
        "int call(int) IndexOutOfBoundsException IllegalStateException",
        "int put(int) IndexOutOfBoundsException IllegalStateException",
        "int forget(int) IndexOutOfBoundsException IllegalStateException",
        "int recall(int) IndexOutOfBoundsException IllegalStateException",
        "int hand(int,int) IndexOutOfBoundsException IllegalArgumentException IllegalStateException",
        "int lean(int,int) IndexOutOfBoundsException IllegalArgumentException",
        "int free(int,int) IndexOutOfBoundsException IllegalArgumentException",
        "int days(int) IllegalArgumentException", "int parade(int)", "int can()",
        "int greets(int,int) IndexOutOfBoundsException",
        "int where(int,int) IndexOutOfBoundsException IllegalArgumentException",
        "int crowd(int,int,int) IndexOutOfBoundsException IllegalArgumentException",
        "int most()", "int does(int,boolean) IllegalArgumentException",
        "int soon(int) IndexOutOfBoundsException", "int longest()", "int ring()",
        "int before(int) IndexOutOfBoundsException", "int after(int) IndexOutOfBoundsException",
        "int depth(int) IndexOutOfBoundsException", "int young(int) IllegalArgumentException",
        "int older(int) IllegalArgumentException", "int whose() IllegalArgumentException",
        "int ask() IllegalArgumentException", "int gap()", "int lost()", "int missed()",
        "int swap(int,int) IndexOutOfBoundsException IllegalArgumentException",
        "int rests(int,int,int) IndexOutOfBoundsException IllegalArgumentException",
        "int sponsor()", "int idle()", "int worst()", "int odds(int,int) IllegalArgumentException",
        "int spare(int,int) IndexOutOfBoundsException IllegalArgumentException",
        "int done(int) IndexOutOfBoundsException", "int all()", "int help()", "int crux()",
        "int sick(int) IndexOutOfBoundsException", "int alike()",
        "int ahead(int,int,int) IndexOutOfBoundsException IllegalArgumentException NoSuchElementException",
        "int trial(int,boolean) IllegalArgumentException", "int span(int,boolean) IllegalArgumentException",
        "int led(int,boolean) IndexOutOfBoundsException", "int log(int,int) NoSuchElementException",
        "int seed(int)", "boolean undo()", "void image()", "boolean back()", "int count(int)",
    };

    public static void main(String[] args) throws Exception {
        Check.promise(1);
        faceIsTheDocuments();
        nothingElseIsSeen();
        newObjectIsEmpty();
        objectsAreApart();
        Check.close("FaceTest", 1);
    }

    private static void faceIsTheDocuments() throws Exception {
        TreeSet<String> want = new TreeSet<>();
        for (String method : FACE) {
            want.add(method);
        }
        TreeSet<String> got = new TreeSet<>();
        for (Method m : PutOffParade.class.getDeclaredMethods()) {
            if (Modifier.isPublic(m.getModifiers())) {
                got.add(told(m));
                Check.due(m.getName() + " is of the object", false, Modifier.isStatic(m.getModifiers()));
            }
        }
        for (String method : want) {
            Check.due("the face has " + method, true, got.contains(method));
        }
        Check.due("methods of the face", want.size(), got.size());
        Field none = PutOffParade.class.getDeclaredField("NONE");
        Check.due("NONE is public static final", Modifier.PUBLIC | Modifier.STATIC | Modifier.FINAL, none.getModifiers());
        Check.due("NONE", -1, PutOffParade.NONE);
        Check.due("the class is public and final", Modifier.PUBLIC | Modifier.FINAL, PutOffParade.class.getModifiers());
        Constructor<?>[] made = PutOffParade.class.getDeclaredConstructors();
        Check.due("constructors", 1, made.length);
        Check.due("its parameters", 0, made[0].getParameterCount());
        Check.due("it is public", Modifier.PUBLIC, made[0].getModifiers());
    }

    private static String told(Method m) {
        StringBuilder s = new StringBuilder(m.getReturnType().getName()).append(' ').append(m.getName()).append('(');
        for (int i = 0; i < m.getParameterCount(); i++) {
            s.append(i > 0 ? "," : "").append(m.getParameterTypes()[i].getName());
        }
        s.append(')');
        for (Class<?> e : m.getExceptionTypes()) {
            s.append(' ').append(e.getSimpleName());
        }
        return s.toString();
    }

    /** LANGUAGE.md, rule 1: what is not of the face is private, and bears none of its names. */
    private static void nothingElseIsSeen() {
        TreeSet<String> names = new TreeSet<>();
        for (String method : FACE) {
            names.add(method.substring(method.indexOf(' ') + 1, method.indexOf('(')));
        }
        for (Method m : PutOffParade.class.getDeclaredMethods()) {
            if (!Modifier.isPublic(m.getModifiers()) && !m.isSynthetic()) {
                Check.due(m.getName() + " is private", true, Modifier.isPrivate(m.getModifiers()));
                Check.due(m.getName() + " is no name of the face", false, names.contains(m.getName()));
            }
        }
        for (Field f : PutOffParade.class.getDeclaredFields()) {
            if (!f.getName().equals("NONE") && !f.isSynthetic()) {
                Check.due(f.getName() + " is private", true, Modifier.isPrivate(f.getModifiers()));
            }
        }
        for (Class<?> inside : PutOffParade.class.getDeclaredClasses()) {
            Check.due(inside.getName() + " is static", true, Modifier.isStatic(inside.getModifiers()));
            Check.due(inside.getName() + " is not public", false, Modifier.isPublic(inside.getModifiers()));
            for (Method m : inside.getDeclaredMethods()) {
                Check.due(m + " is no name of the face", false, names.contains(m.getName()));
            }
        }
    }

    private static void newObjectIsEmpty() {
        PutOffParade x = new PutOffParade();
        int[] counts = {0, 0, 0, -1, 1, 0, 0, 2, 3, 0, 0, 0, 0, 0, 0};
        for (int what = 0; what < counts.length; what++) {
            Check.due("count(" + what + ") of a new object", counts[what], x.count(what));
        }
        Check.due("fault()", -1, x.fault());
        Check.due("undo()", false, x.undo());
        Check.due("back()", false, x.back());
        Check.due("end(0)", true, x.end(0));
        Check.due("end(1)", false, x.end(1));
        Check.due("parade(0)", -1, x.parade(0));
        Check.due("can()", 0, x.can());
        Check.due("most()", 0, x.most());
        Check.due("does(99, false)", 0, x.does(99, false));
        Check.due("does(99, true)", 0, x.does(99, true));
        Check.due("longest()", 0, x.longest());
        Check.due("ring()", 0, x.ring());
        Check.due("young(0)", 0, x.young(0));
        Check.due("older(0)", 0, x.older(0));
        Check.due("whose()", 0, x.whose());
        Check.due("ask()", -1, x.ask());
        Check.due("gap()", -1, x.gap());
        Check.due("lost()", 0, x.lost());
        Check.due("missed()", 0, x.missed());
        Check.due("sponsor()", 0, x.sponsor());
        Check.due("idle()", -1, x.idle());
        Check.due("worst()", -1, x.worst());
        Check.due("all()", 0, x.all());
        Check.due("help()", -1, x.help());
        Check.due("crux()", -1, x.crux());
        Check.due("alike()", 0, x.alike());
        Check.due("trial(90, false)", 0, x.trial(90, false));
        Check.due("trial(90, true)", 0, x.trial(90, true));
        Check.due("span(90, true)", 0, x.span(90, true));
        Check.due("log(0, 0)", -1, x.log(0, 0));
        Check.due("seed(7)", 1, x.seed(7));
        Check.index("person(0, 0)", () -> x.person(0, 0));
        Check.index("duty(0, 0)", () -> x.duty(0, 0));
        Check.due("days(60)", 0, x.days(60));
        Check.due("count(4)", 1, x.count(4));
        Check.due("count(5)", 2, x.count(5));
    }

    private static void objectsAreApart() {
        PutOffParade x = Told.of("person at 1 free 2;duty of 0 takes 3", "shame 4");
        PutOffParade y = new PutOffParade();
        Check.due("people of x", 1, x.count(0));
        Check.due("people of y", 0, y.count(0));
        Check.due("law of y", -1, y.count(3));
        Told.street(y, "person at 9 free 0;person at 8 free 0");
        Check.due("kerb in x", 1, x.person(0, 0));
        Check.due("duty(0, 8) of x", 4, x.duty(0, 8));
    }
}
