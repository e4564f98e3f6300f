import java.util.ArrayList;
import java.util.Random;

/** Draws LINES, and writes them as texts. */
final class Worlds {
    private final Random random;

    Worlds(Random random) {
        this.random = random;
    }

    int among(int low, int high) {
        return low + random.nextInt(high - low + 1);
    }

    Naive.World draw() {
        Naive.World w = new Naive.World();
        int size = random.nextInt(10);
        w.length = size == 0 ? 20 : size == 1 ? 400 : size == 2 ? among(20, 40) : among(60, 200);
        boolean crowded = random.nextInt(4) == 0;
        for (int i = among(0, crowded ? 8 : 2); i > 0; i--) {
            w.slopes.add(new int[] {among(0, w.length), random.nextInt(3) == 0 ? among(-9, 9) : among(-2, 2)});
        }
        for (int i = among(0, crowded ? 6 : 2); i > 0; i--) {
            int at = among(0, w.length);
            w.wets.add(new int[] {at, among(at, w.length), among(0, 100)});
        }
        for (int i = among(0, crowded ? 6 : 2); i > 0; i--) {
            w.limits.add(new int[] {among(0, w.length), among(1, 15)});
        }
        for (int i = among(crowded ? 0 : 1, 6); i > 0; i--) {
            int at = among(0, w.length);
            w.platforms.add(new int[] {at, Math.min(w.length, at + among(0, 60))});
        }
        for (int i = among(crowded ? 0 : 1, 4); i > 0; i--) {
            int b = among(1, 7);
            int length = random.nextInt(4) == 0 ? among(1, 30) : among(1, 10);
            boolean odd = random.nextInt(5) == 0;
            w.kinds.add(new int[] {length, random.nextInt(3) == 0 ? among(0, 3) : among(0, 1),
                odd ? among(1, 9) : b, odd ? among(1, 9) : b + 1, odd ? among(1, 9) : b + 2});
        }
        drawTrains(w, crowded);
        return w;
    }

    private void drawTrains(Naive.World w, boolean crowded) {
        int start = 0;
        int coaches = crowded ? 16 : among(0, 8);
        int trains = crowded ? 5 : among(1, 4);
        for (int t = 0; t < trains; t++) {
            start = random.nextInt(4) == 0 ? among(0, 300) : Math.min(300, start + among(0, 30));
            w.trains.add(new int[] {start, among(1, 15), random.nextInt(2) == 0 ? 0 : among(0, 5)});
            w.rows.add(new ArrayList<>());
            int many = w.kinds.isEmpty() || w.platforms.isEmpty() ? 0
                    : t == trains - 1 ? coaches - w.coaches.size() : among(0, (coaches - w.coaches.size()));
            for (int i = 0; i < many; i++) {
                int p = among(0, w.platforms.size() - 1);
                int at = w.platforms.get(p)[0];
                int post = random.nextInt(3) == 0 ? among(0, w.length) : Math.max(0, at - among(0, 40));
                w.rows.get(t).add(w.coaches.size());
                w.coaches.add(new int[] {t, among(0, w.kinds.size() - 1), p, post});
            }
        }
    }

    private String gap() {
        int n = random.nextInt(12);
        return n == 0 ? "\n" : n == 1 ? "  " : " ";
    }

    private String join(Object... parts) {
        StringBuilder b = new StringBuilder();
        for (int i = 0; i < parts.length; i++) {
            if (i > 0) {
                b.append(gap());
            }
            b.append(parts[i]);
        }
        int n = random.nextInt(6);
        return b.append(n == 0 ? " ;" : n == 1 ? ";\n" : ";").toString();
    }

    /** The CLAUSES in the order of their sorts; one of 1,600 bytes at most. */
    String write(Naive.World w) {
        StringBuilder b = new StringBuilder(join("line", "long", w.length));
        for (int[] a : w.slopes) {
            boolean up = a[1] > 0 || a[1] == 0 && random.nextBoolean();
            b.append(join("slope", "at", a[0], up ? "up" : "down", Math.abs(a[1])));
        }
        for (int[] a : w.wets) {
            b.append(join("wet", "at", a[0], "to", a[1], "by", a[2]));
        }
        for (int[] a : w.limits) {
            b.append(join("limit", "at", a[0], "of", a[1]));
        }
        for (int[] a : w.platforms) {
            b.append(join("platform", "at", a[0], "to", a[1]));
        }
        for (int[] a : w.kinds) {
            b.append(join("kind", "long", a[0], "roll", a[1], "brakes", a[2], a[3], a[4]));
        }
        for (int t = 0; t < w.trains.size(); t++) {
            int[] a = w.trains.get(t);
            b.append(join("train", "starts", a[0], "speed", a[1], "loses", a[2]));
            for (int c : w.rows.get(t)) {
                int[] k = w.coaches.get(c);
                b.append(join("coach", k[1], "for", k[2], "at", k[3]));
            }
        }
        return b.toString();
    }

    static int linesOf(String text) {
        if (text.isEmpty()) {
            return 0;
        }
        int lines = text.split("\n", -1).length;
        return text.endsWith("\n") ? lines - 1 : lines;
    }
}
