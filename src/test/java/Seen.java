/** All that an object can tell of itself: two that tell the same are the same. */
final class Seen {
    private Seen() { }

    /** The street, the law by what it makes of each duty, the log, the seed and how many acts are remembered. */
    static String street(PutOffParade x) {
        StringBuilder s = new StringBuilder();
        for (int what = 0; what <= 14; what++) {
            s.append(x.count(what)).append(' ');
        }
        int people = x.count(0);
        for (int p = 0; p < people; p++) {
            s.append("; person");
            for (int what = 0; what <= 5; what++) {
                s.append(' ').append(x.person(p, what));
            }
        }
        int duties = x.count(1);
        for (int d = 0; d < duties; d++) {
            s.append("; duty");
            for (int what = 0; what <= 10; what++) {
                s.append(' ').append(x.duty(d, what));
            }
        }
        int rows = x.count(13);
        for (int ago = 0; ago < rows; ago++) {
            s.append("; row");
            for (int what = 0; what <= 3; what++) {
                s.append(' ').append(x.log(ago, what));
            }
        }
        int seed = x.seed(0);
        x.seed(seed);
        return s.append("; seed ").append(seed).toString();
    }

    /** How many bytes the tape has; they are the same ahead and behind. */
    static int tape(PutOffParade x) {
        int fed = x.feed(0, 0, 0, 0, 0);
        if (fed != PutOffParade.NONE) {
            x.end(fed - 20);
            return fed - 20;
        }
        for (int n = 400; n > 380; n--) {
            if (x.end(n)) {
                return n;
            }
        }
        return PutOffParade.NONE;
    }

    static String all(PutOffParade x) {
        return "tape " + tape(x) + "; fault " + x.fault() + "; " + street(x);
    }
}
