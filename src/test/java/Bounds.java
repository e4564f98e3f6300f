import java.util.Set;
import java.util.TreeSet;
import java.util.function.IntUnaryOperator;

/** Tries a number on its bounds, just inside and just outside, and far outside. */
final class Bounds {
    private Bounds() {
    }

    /** Each number once: inside the answer is not the one of a refused call, outside it is. */
    static void of(Due due, String name, int low, int high, int refused, IntUnaryOperator call) {
        long[] tried = {Integer.MIN_VALUE, low - 1L, low, low + 1L, high - 1L, high, high + 1L, Integer.MAX_VALUE,
            low - 1000L, high + 65536L};
        Set<Long> once = new TreeSet<>();
        for (long n : tried) {
            if (n >= Integer.MIN_VALUE && n <= Integer.MAX_VALUE && once.add(n)) {
                boolean in = n >= low && n <= high;
                int got = call.applyAsInt((int) n);
                if (in) {
                    due.is(name + " by " + n + " is not refused", got == refused ? 1 : 0, 0);
                } else {
                    due.is(name + " by " + n, got, refused);
                }
            }
        }
    }
}
