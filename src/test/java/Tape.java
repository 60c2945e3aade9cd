/** Puts texts onto the tape of an object. */
final class Tape {
    private Tape() {
    }

    /** Feeds a text, blanks behind it up to the next twenty bytes. */
    static void feed(CloudTakes x, String text) {
        for (int at = 0; at < text.length(); at += 20) {
            int[] n = numbers(text, at);
            x.feed(n[0], n[1], n[2], n[3], n[4]);
        }
    }

    /** The five numbers that hold twenty bytes of a text. */
    static int[] numbers(String text, int at) {
        int[] n = new int[5];
        for (int i = 0; i < 20; i++) {
            int sign = at + i < text.length() ? text.charAt(at + i) : ' ';
            n[i / 4] = n[i / 4] << 8 | sign & 255;
        }
        return n;
    }

    static int plan(CloudTakes x, String text) {
        feed(x, text);
        return x.plan(text.length());
    }

    /** A new object with a plan that must be without a fault. */
    static CloudTakes planned(String text) {
        CloudTakes x = new CloudTakes();
        int fault = plan(x, text);
        if (fault != 0) {
            throw new AssertionError("fault " + fault + " at " + x.fault() + " in: " + text);
        }
        return x;
    }
}
