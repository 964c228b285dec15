/** Makes objects and tells them texts, twenty bytes a call. */
final class Told {
    private Told() { }

    /** Puts the bytes on a tape that is empty. */
    static void bytes(PutOffParade x, int... bytes) {
        x.end(0);
        for (int i = 0; i < bytes.length; i += 20) {
            int[] n = new int[5];
            for (int k = 0; k < 20; k++) {
                int b = i + k < bytes.length ? bytes[i + k] : 0;
                n[k / 4] = n[k / 4] << 8 | b & 255;
            }
            x.feed(n[0], n[1], n[2], n[3], n[4]);
        }
        x.end(bytes.length);
    }

    static void text(PutOffParade x, String text) {
        int[] bytes = new int[text.length()];
        for (int i = 0; i < bytes.length; i++) {
            bytes[i] = text.charAt(i);
        }
        bytes(x, bytes);
    }

    static int street(PutOffParade x, String text) {
        text(x, text);
        return x.street();
    }

    static int law(PutOffParade x, String text) {
        text(x, text);
        return x.law();
    }

    /** A new object told a street. */
    static PutOffParade of(String street) {
        PutOffParade x = new PutOffParade();
        street(x, street);
        return x;
    }

    /** A new object told a street and a law. */
    static PutOffParade of(String street, String law) {
        PutOffParade x = of(street);
        law(x, law);
        return x;
    }

    /** A new object told a street, a law, and more of the street. */
    static PutOffParade of(String street, String law, String more) {
        PutOffParade x = of(street, law);
        street(x, more);
        return x;
    }

    /** The text is wrong where | stands in it, which itself is not told. */
    static void wrongStreet(PutOffParade x, String text) {
        text(x, text.replace("|", ""));
        Check.argument("street: " + text, x::street);
        Check.due("fault of " + text, text.indexOf('|'), x.fault());
    }

    static void wrongStreet(String text) {
        wrongStreet(new PutOffParade(), text);
    }

    static void wrongLaw(PutOffParade x, String text) {
        text(x, text.replace("|", ""));
        Check.argument("law: " + text, x::law);
        Check.due("fault of " + text, text.indexOf('|'), x.fault());
    }

    static void wrongLaw(String text) {
        wrongLaw(new PutOffParade(), text);
    }
}
