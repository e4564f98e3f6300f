/** Counts answers that are not as due, and tells a text to a SlipCoach. */
final class Due {
    private static final int MOST_SHOWN = 40;
    private int asked = 0;
    private int wrong = 0;

    void is(String call, long got, long want) {
        asked++;
        if (got != want) {
            wrong++;
            if (wrong <= MOST_SHOWN) {
                System.out.println(call + " answered " + got + ", due is " + want);
            }
        }
    }

    boolean allRight() {
        return wrong == 0;
    }

    void close(String name) {
        System.out.println(name + ": " + asked + " answers, " + wrong + " wrong");
        if (wrong != 0 || asked == 0) {
            System.exit(1);
        }
    }

    /** Feeds a text behind an empty TAPE; it is cut to its own length. */
    static void tape(SlipCoach x, String text) {
        x.end(0);
        for (int i = 0; i < text.length(); i += 20) {
            x.feed(four(text, i), four(text, i + 4), four(text, i + 8), four(text, i + 12), four(text, i + 16));
        }
        x.end(text.length());
    }

    static int four(String text, int from) {
        int n = 0;
        for (int i = from; i < from + 4; i++) {
            n = n << 8 | (i < text.length() ? text.charAt(i) & 255 : ' ');
        }
        return n;
    }

    /** A SlipCoach with this LINE. */
    static SlipCoach told(String text) {
        SlipCoach x = new SlipCoach();
        tape(x, text);
        if (x.line() < 0) {
            throw new IllegalStateException("FAULT " + x.fault(0) + " at " + x.fault(1) + " of " + text);
        }
        return x;
    }
}
