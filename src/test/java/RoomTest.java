import java.lang.management.ManagementFactory;

/** All calls of one run live in one room: the rows are made by the constructor and used again by every call. */
public final class RoomTest {
    /** The room has some 600,000 objects and 7,300,000 fields and elements: far more bytes than these. */
    private static final long ROOM = 4_000_000;
    private static final String DUTIES = ";duty of 0 takes 2 tool 0".repeat(4) + ";duty of 1 takes 9".repeat(4);

    public static void main(String[] args) {
        Check.promise(1);
        com.sun.management.ThreadMXBean threads = (com.sun.management.ThreadMXBean) ManagementFactory.getThreadMXBean();
        long thread = Thread.currentThread().getId();
        callsOf(new PutOffParade());
        long before = threads.getThreadAllocatedBytes(thread);
        PutOffParade x = new PutOffParade();
        long made = threads.getThreadAllocatedBytes(thread);
        int calls = callsOf(x);
        long after = threads.getThreadAllocatedBytes(thread);
        Check.due("an object takes " + (made - before) + " bytes", true, made - before < ROOM);
        Check.due(calls + " calls are fewer than 512", true, calls < 512);
        Check.due(calls + " calls take " + (after - made) + " bytes, most of them the test's own texts", true, after - made < ROOM);
        Check.close("RoomTest", 1);
    }

    /** The dearest calls, again and again. */
    private static int callsOf(PutOffParade x) {
        Told.street(x, "person at 3 free 1;person at 5 free 1;pace 9;ill 20" + DUTIES);
        Told.law(x, "grow 2 if not (ready and old) or left + age < 9;shame 9 if (((age > 2)));ease 1;grow 1");
        int calls = 40;
        for (int i = 0; i < 18; i++, calls += 24) {
            x.days(90);
            x.undo();
            x.days(1);
            x.image();
            x.put(7);
            x.free(0, i % 10);
            x.back();
            x.does(99, false);
            x.does(99, true);
            x.most();
            x.help();
            x.crux();
            x.sick(0);
            x.all();
            x.span(90, true);
            x.trial(90, true);
            x.ahead(3, 90, 0);
            x.swap(0, 1);
            x.young(0);
            x.longest();
            x.count(12);
            x.ask();
            x.spare(0, 54);
            x.missed();
        }
        return calls;
    }
}
