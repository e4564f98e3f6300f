import java.util.ArrayList;
import java.util.HashMap;
import java.util.HashSet;
import java.util.List;
import java.util.Map;
import java.util.Set;

/** The document once more, as plainly and slowly as can be: what SlipCoach is held against. */
final class Naive {
    static final int NOTHING = -1000000;

    /** The LINE as it was told, and as post, shift and swap left it. */
    static final class World {
        int length = 0;
        int lines = 0;
        int rain = 0;
        List<int[]> slopes = new ArrayList<>();
        List<int[]> wets = new ArrayList<>();
        List<int[]> limits = new ArrayList<>();
        List<int[]> platforms = new ArrayList<>();
        List<int[]> kinds = new ArrayList<>();
        /** start, speed, loses */
        List<int[]> trains = new ArrayList<>();
        /** train, kind, platform, post */
        List<int[]> coaches = new ArrayList<>();
        /** COACHES of each TRAIN, from the engine on. */
        List<List<Integer>> rows = new ArrayList<>();

        World copy() {
            World w = new World();
            w.length = length;
            w.lines = lines;
            w.rain = rain;
            for (int[] a : slopes) w.slopes.add(a.clone());
            for (int[] a : wets) w.wets.add(a.clone());
            for (int[] a : limits) w.limits.add(a.clone());
            for (int[] a : platforms) w.platforms.add(a.clone());
            for (int[] a : kinds) w.kinds.add(a.clone());
            for (int[] a : trains) w.trains.add(a.clone());
            for (int[] a : coaches) w.coaches.add(a.clone());
            for (List<Integer> r : rows) w.rows.add(new ArrayList<>(r));
            return w;
        }
    }

    World w = new World();
    World[] images = new World[3];
    long[][] slots = new long[4][];
    int[] widths = new int[4];
    private Map<Long, String> handlingMemo = new HashMap<>();

    void changed() {
        handlingMemo.clear();
    }

    boolean noLine() {
        return w.length == 0;
    }

    boolean badYard(int yard) {
        return noLine() || yard < 0 || yard > w.length;
    }

    static boolean no(List<?> list, int i) {
        return i < 0 || i >= list.size();
    }

    int slope(int yard) {
        int s = 0;
        for (int[] a : w.slopes) if (a[0] <= yard) s = a[1];
        return s;
    }

    int wet(int yard) {
        int most = w.rain;
        for (int[] a : w.wets) if (a[0] <= yard && yard <= a[1] && a[2] > most) most = a[2];
        return most;
    }

    int limit(int yard) {
        int l = 15;
        for (int[] a : w.limits) if (a[0] <= yard) l = a[1];
        return l;
    }

    int yard(int yard, int what) {
        if (badYard(yard)) return -2;
        if (what == 0) return slope(yard) + 10;
        if (what == 1) return wet(yard);
        if (what == 2) return limit(yard);
        return -2;
    }

    int coach(int c, int what) {
        if (no(w.coaches, c) || what < 0 || what > 4) return -2;
        if (what == 4) return w.rows.get(w.coaches.get(c)[0]).indexOf(c);
        return w.coaches.get(c)[what];
    }

    int rain(int n) {
        if (noLine() || n < 0 || n > 100) return -2;
        int old = w.rain;
        w.rain = n;
        changed();
        return old;
    }

    int post(int c, int yard) {
        if (no(w.coaches, c) || badYard(yard)) return -2;
        int old = w.coaches.get(c)[3];
        w.coaches.get(c)[3] = yard;
        return old;
    }

    int shift(int t, int tick) {
        if (no(w.trains, t) || tick < 0 || tick > 300) return -2;
        int old = w.trains.get(t)[0];
        w.trains.get(t)[0] = tick;
        return old;
    }

    int swap(int a, int b) {
        if (no(w.coaches, a) || no(w.coaches, b) || a == b) return -2;
        if (w.coaches.get(a)[0] != w.coaches.get(b)[0]) return -2;
        List<Integer> row = w.rows.get(w.coaches.get(a)[0]);
        int i = row.indexOf(a);
        int j = row.indexOf(b);
        row.set(i, b);
        row.set(j, a);
        return 0;
    }

    /** SPEED behind a TICK. */
    int after(int kind, int yard, int speed, int step) {
        int[] k = w.kinds.get(kind);
        int brake = step == 0 ? 0 : k[1 + step] * (100 - wet(yard)) / 100;
        int s = speed - k[1] - brake - slope(yard);
        if (s < 0) s = 0;
        if (s > 15) s = 15;
        return s;
    }

    boolean badRun(int kind, int yard, int speed) {
        return no(w.kinds, kind) || badYard(yard) || speed < 1 || speed > 15;
    }

    boolean badAim(int kind, int platform, int yard, int speed) {
        return badRun(kind, yard, speed) || no(w.platforms, platform);
    }

    int tick(int kind, int yard, int speed, int step, int what) {
        if (badRun(kind, yard, speed) || step < 0 || step > 3 || what < 0 || what > 1) return -2;
        int s = after(kind, yard, speed, step);
        return what == 0 ? yard + s : s;
    }

    boolean inside(int kind, int platform, int front) {
        int[] p = w.platforms.get(platform);
        return front <= p[1] && front - w.kinds.get(kind)[0] >= p[0];
    }

    static int sumOf(String row) {
        int sum = 0;
        for (int i = 0; i < row.length(); i++) sum += row.charAt(i) - '0';
        return sum;
    }

    /** The best row of STEPS as digits; null if there is none. */
    String handling(int kind, int platform, int yard, int speed) {
        if (yard > w.length) return null;
        long key = ((kind * 10L + platform) * 1000 + yard) * 100 + speed;
        if (handlingMemo.containsKey(key)) return handlingMemo.get(key);
        String best = null;
        for (int step = 0; step <= 3; step++) {
            int s = after(kind, yard, speed, step);
            String rest = s == 0 ? (inside(kind, platform, yard) ? "" : null)
                    : handling(kind, platform, yard + s, s);
            if (rest == null) continue;
            String row = step + rest;
            if (best == null || sumOf(row) < sumOf(best)
                    || sumOf(row) == sumOf(best) && row.compareTo(best) < 0) {
                best = row;
            }
        }
        handlingMemo.put(key, best);
        return best;
    }

    int can(int kind, int platform, int yard, int speed) {
        if (badAim(kind, platform, yard, speed)) return -2;
        return handling(kind, platform, yard, speed) == null ? 0 : 1;
    }

    int step(int kind, int platform, int yard, int speed) {
        if (badAim(kind, platform, yard, speed)) return -2;
        String h = handling(kind, platform, yard, speed);
        return h == null ? -1 : h.charAt(0) - '0';
    }

    int handled(int kind, int platform, int yard, int speed, int what) {
        if (badAim(kind, platform, yard, speed) || what < 0 || what > 2) return -2;
        String h = handling(kind, platform, yard, speed);
        if (h == null) return -1;
        if (what == 0) return sumOf(h);
        if (what == 1) return h.length();
        int at = yard;
        int s = speed;
        for (int i = 0; i < h.length(); i++) {
            s = after(kind, at, s, h.charAt(i) - '0');
            at += s;
        }
        return at;
    }

    /** All YARDS where it may STAND with no STEP above most and no drop above drop, in n TICKS at most. */
    Set<Integer> standsBy(int kind, int yard, int speed, int most, int drop, int n) {
        Set<Integer> stood = new HashSet<>();
        Set<Integer> now = new HashSet<>();
        now.add(yard * 100 + speed);
        for (int t = 0; t < n && !now.isEmpty(); t++) {
            Set<Integer> next = new HashSet<>();
            for (int state : now) {
                int at = state / 100;
                int fast = state % 100;
                for (int step = 0; step <= most; step++) {
                    int s = after(kind, at, fast, step);
                    if (fast - s > drop) continue;
                    if (s == 0) stood.add(at);
                    else if (at + s <= w.length) next.add((at + s) * 100 + s);
                }
            }
            now = next;
        }
        return stood;
    }

    boolean anyInside(Set<Integer> stood, int kind, int platform) {
        for (int at : stood) if (inside(kind, platform, at)) return true;
        return false;
    }

    int hard(int kind, int platform, int yard, int speed) {
        if (badAim(kind, platform, yard, speed)) return -2;
        for (int h = 0; h <= 3; h++) {
            if (anyInside(standsBy(kind, yard, speed, h, 99, 500), kind, platform)) return h;
        }
        return -1;
    }

    int quick(int kind, int platform, int yard, int speed) {
        if (badAim(kind, platform, yard, speed)) return -2;
        for (int n = 1; n <= w.length + 2; n++) {
            if (anyInside(standsBy(kind, yard, speed, 3, 99, n), kind, platform)) return n;
        }
        return -1;
    }

    int jolt(int kind, int platform, int yard, int speed) {
        if (badAim(kind, platform, yard, speed)) return -2;
        for (int j = 0; j <= 15; j++) {
            if (anyInside(standsBy(kind, yard, speed, 3, j, 500), kind, platform)) return j;
        }
        return -1;
    }

    int stands(int kind, int yard, int speed, int what) {
        if (badRun(kind, yard, speed) || what < 0 || what > 2) return -2;
        Set<Integer> stood = standsBy(kind, yard, speed, 3, 99, 500);
        return ofSet(stood, what);
    }

    static int ofSet(Set<Integer> set, int what) {
        if (what == 2) return set.size();
        int found = -1;
        for (int i : set) {
            if (found == -1 || (what == 0 ? i < found : i > found)) found = i;
        }
        return found;
    }

    int posts(int kind, int platform, int speed, int what) {
        if (badAim(kind, platform, 0, speed) || what < 0 || what > 2) return -2;
        Set<Integer> from = new HashSet<>();
        for (int y = 0; y <= w.length; y++) if (can(kind, platform, y, speed) == 1) from.add(y);
        return ofSet(from, what);
    }

    int speeds(int kind, int platform, int yard) {
        if (badAim(kind, platform, yard, 1)) return -2;
        int bits = 0;
        for (int s = 1; s <= 15; s++) if (can(kind, platform, yard, s) == 1) bits += 1 << s;
        return bits;
    }

    int wetter(int kind, int platform, int yard, int speed) {
        if (badAim(kind, platform, yard, speed)) return -2;
        int old = w.rain;
        int n = -1;
        while (n < 100) {
            w.rain = n + 1;
            changed();
            if (can(kind, platform, yard, speed) == 0) break;
            n++;
        }
        w.rain = old;
        changed();
        return n;
    }

    int room(int kind, int platform) {
        if (no(w.kinds, kind) || no(w.platforms, platform)) return NOTHING;
        return w.platforms.get(platform)[1] - w.platforms.get(platform)[0] - w.kinds.get(kind)[0];
    }

    int told(int slot, int kind, int yard, int speed) {
        if (slot < 0 || slot > 3 || badRun(kind, yard, speed)) return -2;
        if (slots[slot] == null) return -6;
        for (long n : slots[slot]) if (n < 0 || n > 3) return -2;
        int at = yard;
        int s = speed;
        for (int i = 0; ; i++) {
            s = after(kind, at, s, i < slots[slot].length ? (int) slots[slot][i] : 3);
            at += s;
            if (s == 0) return at;
            if (at > w.length) return -1;
        }
    }

    int judge(int slot, int kind, int platform, int yard, int speed) {
        if (slot < 0 || slot > 3 || badAim(kind, platform, yard, speed)) return -2;
        if (slots[slot] == null) return -6;
        for (long n : slots[slot]) if (n < 0 || n > 3) return -2;
        int at = yard;
        int s = speed;
        for (int i = 0; i < slots[slot].length; i++) {
            if (s > 0) {
                s = after(kind, at, s, (int) slots[slot][i]);
                at += s;
            }
            boolean may = s == 0 ? inside(kind, platform, at) : at <= w.length && can(kind, platform, at, s) == 1;
            if (!may) return i;
        }
        return slots[slot].length;
    }

    int pulls(int t, int yard, int coaches) {
        if (no(w.trains, t) || badYard(yard) || coaches < 0 || coaches > 16) return -2;
        int own = w.trains.get(t)[1] - w.trains.get(t)[2] * coaches;
        return Math.max(1, Math.min(own, limit(yard)));
    }

    /** One day's run of all, TICK by TICK. */
    final class Sim {
        final int[] posts;
        final boolean[] weak;
        int[] front;
        int[] gone;
        int[][] frontAt;
        List<List<Integer>> rows = new ArrayList<>();
        int[] letTick;
        int[] letYard;
        int[] letSpeed;
        int[] at;
        int[] speed;
        int[] standTick;
        int[] offTick;
        int[] breach = null;

        Sim() {
            int n = w.coaches.size();
            posts = new int[n];
            weak = new boolean[n];
            for (int c = 0; c < n; c++) posts[c] = w.coaches.get(c)[3];
        }

        void err(int c, int sort, int yards) {
            if (sort == 0) posts[c] = Math.max(0, posts[c] - yards);
            if (sort == 1) posts[c] = Math.min(w.length, posts[c] + yards);
            if (sort == 2) weak[c] = true;
        }

        int lengthOf(List<Integer> row) {
            int sum = 0;
            for (int c : row) sum += w.kinds.get(w.coaches.get(c)[1])[0];
            return sum;
        }

        Sim run() {
            int n = w.coaches.size();
            int m = w.trains.size();
            front = fresh(m);
            gone = fresh(m);
            frontAt = new int[m][1200];
            letTick = fresh(n);
            letYard = fresh(n);
            letSpeed = fresh(n);
            at = fresh(n);
            speed = fresh(n);
            standTick = fresh(n);
            offTick = fresh(n);
            for (List<Integer> r : w.rows) rows.add(new ArrayList<>(r));
            for (int tick = 0; tick < 1200; tick++) {
                for (int c = 0; c < n; c++) moveCoach(c, tick);
                for (int t = 0; t < m; t++) moveTrain(t, tick);
                if (breach == null) look(tick);
                if (ended()) break;
            }
            return this;
        }

        private boolean ended() {
            for (int g : gone) if (g < 0) return false;
            for (int c = 0; c < at.length; c++) {
                if (letTick[c] >= 0 && standTick[c] < 0 && offTick[c] < 0) return false;
            }
            return true;
        }

        private int[] fresh(int n) {
            int[] a = new int[n];
            java.util.Arrays.fill(a, -1);
            return a;
        }

        private void moveCoach(int c, int tick) {
            if (letTick[c] < 0 || standTick[c] >= 0 || offTick[c] >= 0) return;
            int kind = w.coaches.get(c)[1];
            String h = handling(kind, w.coaches.get(c)[2], at[c], speed[c]);
            int step = h == null ? 3 : h.charAt(0) - '0';
            if (weak[c] && step > 0) step--;
            speed[c] = after(kind, at[c], speed[c], step);
            at[c] += speed[c];
            if (speed[c] == 0) standTick[c] = tick;
            else if (at[c] > w.length) offTick[c] = tick;
        }

        private void moveTrain(int t, int tick) {
            int start = w.trains.get(t)[0];
            if (tick < start || gone[t] >= 0) return;
            List<Integer> row = rows.get(t);
            if (tick == start) {
                front[t] = lengthOf(row);
            } else {
                int own = w.trains.get(t)[1] - w.trains.get(t)[2] * row.size();
                int s = Math.max(1, Math.min(own, limit(Math.min(front[t], w.length))));
                front[t] += s;
                while (!row.isEmpty() && posts[row.get(row.size() - 1)] <= front[t]) {
                    int c = row.remove(row.size() - 1);
                    letTick[c] = tick;
                    letYard[c] = front[t] - lengthOf(row);
                    letSpeed[c] = s;
                    at[c] = letYard[c];
                    speed[c] = s;
                    if (at[c] > w.length) offTick[c] = tick;
                }
            }
            frontAt[t][tick] = front[t];
            if (front[t] >= w.length) gone[t] = tick;
        }

        boolean well(int c) {
            return standTick[c] >= 0 && inside(w.coaches.get(c)[1], w.coaches.get(c)[2], at[c]);
        }

        private void look(int tick) {
            for (int b = 0; b < front.length; b++) {
                if (tick < w.trains.get(b)[0] || gone[b] >= 0) continue;
                for (int c = 0; c < at.length; c++) {
                    boolean on = letTick[c] >= 0 && offTick[c] < 0 && !well(c);
                    int tail = at[c] - w.kinds.get(w.coaches.get(c)[1])[0];
                    if (on && earlier(w.coaches.get(c)[0], b) && front[b] >= tail) {
                        breach = new int[] {tick, b, c};
                        return;
                    }
                }
                for (int a = 0; a < front.length; a++) {
                    boolean on = tick >= w.trains.get(a)[0] && gone[a] < 0;
                    if (on && earlier(a, b) && front[b] >= front[a] - lengthOf(rows.get(a))) {
                        breach = new int[] {tick, b, 100 + a};
                        return;
                    }
                }
            }
        }

        private boolean earlier(int a, int b) {
            int sa = w.trains.get(a)[0];
            int sb = w.trains.get(b)[0];
            return sa < sb || sa == sb && a < b;
        }
    }

    int passes(int t, int yard) {
        if (no(w.trains, t) || badYard(yard)) return -2;
        Sim s = new Sim().run();
        for (int tick = w.trains.get(t)[0]; ; tick++) if (s.frontAt[t][tick] >= yard) return tick;
    }

    int lets(int c, int what) {
        if (no(w.coaches, c) || what < 0 || what > 2) return -2;
        Sim s = new Sim().run();
        return what == 0 ? s.letTick[c] : what == 1 ? s.letYard[c] : s.letSpeed[c];
    }

    int comes(int c, int what) {
        if (no(w.coaches, c) || what < 0 || what > 2) return -2;
        Sim s = new Sim().run();
        if (s.standTick[c] < 0) return what == 2 ? NOTHING : -1;
        if (what == 0) return s.at[c];
        if (what == 1) return s.standTick[c];
        int[] p = w.platforms.get(w.coaches.get(c)[2]);
        int tail = s.at[c] - w.kinds.get(w.coaches.get(c)[1])[0];
        if (tail < p[0]) return p[0] - tail;
        if (s.at[c] > p[1]) return -(s.at[c] - p[1]);
        return 0;
    }

    int clear(int c) {
        if (no(w.coaches, c)) return -2;
        Sim s = new Sim().run();
        if (s.offTick[c] >= 0) return s.offTick[c];
        return s.well(c) ? s.standTick[c] : -1;
    }

    int good() {
        if (noLine()) return -1;
        Sim s = new Sim().run();
        int many = 0;
        for (int c = 0; c < w.coaches.size(); c++) if (s.well(c)) many++;
        return many;
    }

    int breach(int what) {
        if (noLine() || what < 0 || what > 2) return -2;
        Sim s = new Sim().run();
        return s.breach == null ? -1 : s.breach[what];
    }

    boolean erring(int c, int sort, int n) {
        Sim s = new Sim();
        s.err(c, sort, n);
        return s.run().breach != null;
    }

    int mistake(int sort, int n) {
        if (noLine() || sort < 0 || sort > 2 || n < 0 || n > 99) return -2;
        for (int c = 0; c < w.coaches.size(); c++) if (erring(c, sort, n)) return c;
        return -1;
    }

    int weak(int n) {
        if (noLine() || n < 0 || n > 99) return -2;
        int many = 0;
        for (int c = 0; c < w.coaches.size(); c++) {
            for (int sort = 0; sort < 3; sort++) if (erring(c, sort, n)) many++;
        }
        return many;
    }

    int start(int t) {
        if (no(w.trains, t)) return -2;
        int old = w.trains.get(t)[0];
        int found = -1;
        for (int s = 0; s <= 300 && found < 0; s++) {
            w.trains.get(t)[0] = s;
            if (new Sim().run().breach == null) found = s;
        }
        w.trains.get(t)[0] = old;
        return found;
    }

    int at(int c) {
        return w.platforms.get(w.coaches.get(c)[2])[0];
    }

    int shunts(int t, int what) {
        if (no(w.trains, t) || what < 0 || what > 1) return -2;
        List<Integer> row = w.rows.get(t);
        int best = -1;
        int all = 0;
        for (int c : row) all |= 1 << c;
        for (int set = 0; set < 1 << w.coaches.size(); set++) {
            if ((set & ~all) != 0 || best >= 0 && Integer.bitCount(set) >= Integer.bitCount(best)) continue;
            int last = 10000;
            boolean fine = true;
            for (int c : row) {
                if ((set >> c & 1) == 1) continue;
                if (at(c) > last) fine = false;
                last = at(c);
            }
            if (fine) best = set;
        }
        return what == 0 ? Integer.bitCount(best) : best;
    }

    int order(int t, int i) {
        if (no(w.trains, t)) return -2;
        List<Integer> row = new ArrayList<>(w.rows.get(t));
        row.sort((a, b) -> at(b) - at(a));
        return no(row, i) ? -1 : row.get(i);
    }

    int blocked(int t) {
        if (no(w.trains, t)) return -2;
        List<Integer> row = w.rows.get(t);
        for (int i = row.size() - 1; i >= 0; i--) {
            for (int j = i + 1; j < row.size(); j++) {
                if (w.coaches.get(row.get(i))[3] < w.coaches.get(row.get(j))[3]) return row.get(i);
            }
        }
        return -1;
    }

    int saved(int t, int n) {
        if (no(w.trains, t) || n < 0 || n > 99) return NOTHING;
        Sim s = new Sim().run();
        int needs = s.gone[t] - w.trains.get(t)[0];
        List<Integer> row = w.rows.get(t);
        int front = s.lengthOf(row);
        int would = 0;
        while (front < w.length) {
            front += pulls(t, front, row.size());
            would++;
        }
        Set<Integer> platforms = new HashSet<>();
        for (int c : row) platforms.add(w.coaches.get(c)[2]);
        return would + n * platforms.size() - needs;
    }

    /** The least sum of STEPS by this POST, -1 if it does not STAND there. */
    int sumByPost(int c, int post) {
        int old = w.coaches.get(c)[3];
        w.coaches.get(c)[3] = post;
        Sim s = new Sim().run();
        w.coaches.get(c)[3] = old;
        if (!s.well(c)) return -1;
        return sumOf(handling(w.coaches.get(c)[1], w.coaches.get(c)[2], s.letYard[c], s.letSpeed[c]));
    }

    int best(int c) {
        if (no(w.coaches, c)) return -2;
        int best = -1;
        int least = 1 << 30;
        for (int p = 0; p <= w.length; p++) {
            int sum = sumByPost(c, p);
            if (sum >= 0 && sum < least) {
                least = sum;
                best = p;
            }
        }
        return best;
    }

    int margin(int c, int what) {
        if (no(w.coaches, c) || what < 0 || what > 1) return -2;
        Set<Integer> set = new HashSet<>();
        for (int p = 0; p <= w.length; p++) if (sumByPost(c, p) >= 0) set.add(p);
        return ofSet(set, what);
    }

    Sim drawn(int seed, int odds, int yards) {
        Sim s = new Sim();
        java.math.BigInteger x = java.math.BigInteger.valueOf(seed);
        for (int c = 0; c < w.coaches.size(); c++) {
            x = next(x);
            if (draw(x) < odds) {
                x = next(x);
                s.err(c, draw(x) % 3, yards);
            }
        }
        return s.run();
    }

    static java.math.BigInteger next(java.math.BigInteger x) {
        return x.multiply(java.math.BigInteger.valueOf(1103515245)).add(java.math.BigInteger.valueOf(12345))
                .mod(java.math.BigInteger.ONE.shiftLeft(31));
    }

    static int draw(java.math.BigInteger x) {
        return x.shiftRight(16).intValue() % 100;
    }

    boolean badDay(int seed, int odds, int yards) {
        return noLine() || seed < 0 || seed > 2000000000 || odds < 0 || odds > 100 || yards < 0 || yards > 99;
    }

    int days(int seed, int n, int odds, int yards) {
        if (badDay(seed, odds, yards) || n < 1 || n > 20) return -2;
        int many = 0;
        for (int i = 0; i < n; i++) if (drawn(seed + i, odds, yards).breach != null) many++;
        return many;
    }

    int day(int seed, int odds, int yards) {
        if (badDay(seed, odds, yards)) return -2;
        Sim s = drawn(seed, odds, yards);
        int bits = 0;
        for (int c = 0; c < w.coaches.size(); c++) if (s.well(c)) bits |= 1 << c;
        return bits;
    }

    int keep(int k) {
        if (k < 0 || k > 2) return -2;
        images[k] = w.copy();
        return 0;
    }

    int back(int k) {
        if (k < 0 || k > 2) return -2;
        if (images[k] == null) return -6;
        w = images[k].copy();
        changed();
        return 0;
    }

    int row(int slot, int width, int n) {
        if (slot < 0 || slot > 3 || width < 0 || width > 3 || n > 60) return -2;
        if (n < 0) return -3;
        slots[slot] = new long[n];
        widths[slot] = width;
        return 0;
    }

    int write(int slot, int i, long v) {
        if (slot < 0 || slot > 3) return -2;
        if (slots[slot] == null) return -6;
        if (i < 0 || i >= slots[slot].length) return -7;
        int cut = 64 - (8 << widths[slot]);
        slots[slot][i] = v << cut >> cut;
        return 0;
    }

    int paste(int slot, int i, int to, int k, int n) {
        if (slot < 0 || slot > 3 || to < 0 || to > 3) return -2;
        if (slots[slot] == null || slots[to] == null) return -6;
        if (widths[slot] != widths[to]) return -8;
        if (i < 0 || k < 0 || n < 0) return -7;
        if ((long) i + n > slots[slot].length || (long) k + n > slots[to].length) return -7;
        long[] copy = slots[slot].clone();
        for (int j = 0; j < n; j++) slots[to][k + j] = copy[i + j];
        return 0;
    }

    int count(int what) {
        int held = 0;
        for (long[] s : slots) if (s != null) held++;
        switch (what) {
            case 0: return w.length;
            case 1: return w.kinds.size();
            case 2: return w.platforms.size();
            case 3: return w.trains.size();
            case 4: return w.coaches.size();
            case 5: return w.lines;
            case 7: return w.rain;
            case 8: return held;
            default: return -1;
        }
    }
}
