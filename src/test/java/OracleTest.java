import java.util.Random;

/** Holds SlipCoach against Naive over drawn LINES and calls. */
public final class OracleTest {
    private static final int CHEAP = 34;
    private final Random random;
    private final Worlds worlds;
    private final Due due;
    private SlipCoach x;
    private Naive o;

    private OracleTest(long seed, Due due) {
        this.random = new Random(seed);
        this.worlds = new Worlds(random);
        this.due = due;
    }

    public static void main(String[] args) {
        long first = args.length > 0 ? Long.parseLong(args[0]) : 1;
        int many = args.length > 1 ? Integer.parseInt(args[1]) : 150;
        Due due = new Due();
        for (long seed = first; seed < first + many; seed++) {
            new OracleTest(seed, due).run(seed);
            if (!due.allRight()) {
                System.out.println("seed " + seed);
                break;
            }
        }
        due.close("OracleTest");
    }

    private void run(long seed) {
        x = new SlipCoach();
        o = new Naive();
        for (int line = 0; line < 2; line++) {
            Naive.World w = worlds.draw();
            String text = worlds.write(w);
            while (text.length() > 1600) {
                w = worlds.draw();
                text = worlds.write(w);
            }
            Due.tape(x, text);
            w.lines = Worlds.linesOf(text);
            due.is("line() of " + text, x.line(), w.lines);
            o.w = w;
            o.changed();
            int calls = w.coaches.size() > 10 ? 60 : 110;
            for (int i = 0; i < calls; i++) {
                cheap(random.nextInt(CHEAP));
            }
            for (int i = 0; i < 3; i++) {
                dear(random.nextInt(10));
            }
        }
    }

    /** A number for a list of n: mostly one of its own. */
    private int pick(int n) {
        int r = random.nextInt(20);
        if (r == 0 || n == 0) {
            return random.nextInt(4) == 0 ? random.nextInt() : random.nextInt(n + 3) - 1;
        }
        return random.nextInt(n);
    }

    private int kind() {
        return pick(o.w.kinds.size());
    }

    private int platform() {
        return pick(o.w.platforms.size());
    }

    private int yard() {
        return pick(o.w.length + 1);
    }

    private int speed() {
        return pick(15) + 1;
    }

    private int train() {
        return pick(o.w.trains.size());
    }

    private int coach() {
        return pick(o.w.coaches.size());
    }

    private void cheap(int which) {
        int k = kind();
        int p = platform();
        int y = yard();
        int s = speed();
        int what = pick(3);
        int t = train();
        int c = coach();
        int slot = pick(4);
        String a = " (" + k + ", " + p + ", " + y + ", " + s + ", " + what + ") train " + t + " coach " + c + " slot " + slot;
        switch (which) {
            case 0: due.is("yard" + a, x.yard(y, what), o.yard(y, what)); break;
            case 1: { int w = pick(5); due.is("coach" + w + a, x.coach(c, w), o.coach(c, w)); break; }
            case 2: { int n = pick(101); if (random.nextInt(3) == 0) due.is("rain" + n, x.rain(n), o.rain(n)); break; }
            case 3: due.is("post" + a, x.post(c, y), o.post(c, y)); break;
            case 4: { int n = pick(301); if (random.nextBoolean()) n = n % 60;
                due.is("shift" + n + a, x.shift(t, n), o.shift(t, n)); break; }
            case 5: { int d = coach(); due.is("swap" + d + a, x.swap(c, d), o.swap(c, d)); break; }
            case 6: { int st = pick(4); due.is("tick" + st + a, x.tick(k, y, s, st, what), o.tick(k, y, s, st, what)); break; }
            case 7: due.is("can" + a, x.can(k, p, y, s), o.can(k, p, y, s)); break;
            case 8: due.is("step" + a, x.step(k, p, y, s), o.step(k, p, y, s)); break;
            case 9: due.is("handled" + a, x.handled(k, p, y, s, what), o.handled(k, p, y, s, what)); break;
            case 10: due.is("hard" + a, x.hard(k, p, y, s), o.hard(k, p, y, s)); break;
            case 11: due.is("quick" + a, x.quick(k, p, y, s), o.quick(k, p, y, s)); break;
            case 12: due.is("jolt" + a, x.jolt(k, p, y, s), o.jolt(k, p, y, s)); break;
            case 13: due.is("stands" + a, x.stands(k, y, s, what), o.stands(k, y, s, what)); break;
            case 14: due.is("posts" + a, x.posts(k, p, s, what), o.posts(k, p, s, what)); break;
            case 15: due.is("speeds" + a, x.speeds(k, p, y), o.speeds(k, p, y)); break;
            case 16: if (random.nextInt(3) == 0) due.is("wetter" + a, x.wetter(k, p, y, s), o.wetter(k, p, y, s)); break;
            case 17: due.is("room" + a, x.room(k, p), o.room(k, p)); break;
            case 18: due.is("told" + a, x.told(slot, k, y, s), o.told(slot, k, y, s)); break;
            case 19: due.is("judge" + a, x.judge(slot, k, p, y, s), o.judge(slot, k, p, y, s)); break;
            case 20: { int n = pick(17); due.is("pulls" + n + a, x.pulls(t, y, n), o.pulls(t, y, n)); break; }
            case 21: due.is("passes" + a, x.passes(t, y), o.passes(t, y)); break;
            case 22: due.is("lets" + a, x.lets(c, what), o.lets(c, what)); break;
            case 23: due.is("comes" + a, x.comes(c, what), o.comes(c, what)); break;
            case 24: due.is("clear" + a, x.clear(c), o.clear(c)); break;
            case 25: due.is("good", x.good(), o.good()); due.is("breach" + a, x.breach(what), o.breach(what)); break;
            case 26: { int n = pick(100); due.is("saved" + n + a, x.saved(t, n), o.saved(t, n)); break; }
            case 27: due.is("blocked" + a, x.blocked(t), o.blocked(t)); break;
            case 28: { int i = pick(16); due.is("order" + i + a, x.order(t, i), o.order(t, i)); break; }
            case 29: { int w = pick(2); due.is("shunts" + w + a, x.shunts(t, w), o.shunts(t, w)); break; }
            case 30: { int w = pick(9); if (w != 6) due.is("count" + w, x.count(w), o.count(w)); break; }
            case 31: images(); break;
            default: rows(slot); break;
        }
    }

    private void images() {
        int i = pick(3);
        if (random.nextBoolean()) {
            due.is("keep" + i, x.keep(i), o.keep(i));
        } else if (random.nextBoolean()) {
            due.is("back" + i, x.back(i), o.back(i));
        }
    }

    private void rows(int slot) {
        int width = pick(4);
        int n = random.nextInt(10) == 0 ? pick(61) : pick(8);
        due.is("row", x.row(slot, width, n), o.row(slot, width, n));
        for (int i = 0; i < 8; i++) {
            int at = pick(8);
            long v = random.nextInt(30) == 0 ? random.nextLong() : random.nextInt(20) == 0 ? 256L << 8 * random.nextInt(7) | random.nextInt(5) : random.nextInt(4);
            due.is("write" + at + " " + v, x.write(slot, at, v), o.write(slot, at, v));
        }
        int to = pick(4);
        int i = pick(8);
        int k = pick(8);
        int m = pick(5);
        due.is("paste", x.paste(slot, i, to, k, m), o.paste(slot, i, to, k, m));
    }

    private void dear(int which) {
        int c = coach();
        int n = pick(100);
        int sort = pick(3);
        int t = train();
        int seed = random.nextInt(4) == 0 ? random.nextInt() : random.nextInt(2000000001);
        int odds = pick(101);
        int what = pick(2);
        switch (which) {
            case 0: due.is("mistake " + sort + " " + n, x.mistake(sort, n), o.mistake(sort, n)); break;
            case 1: due.is("weak " + n, x.weak(n), o.weak(n)); break;
            case 2: case 7: case 8: due.is("start " + t, x.start(t), o.start(t)); break;
            case 3: due.is("best " + c, x.best(c), o.best(c)); break;
            case 4: due.is("margin " + c, x.margin(c, what), o.margin(c, what)); break;
            case 5: { int d = pick(20) + 1; due.is("days " + seed, x.days(seed, d, odds, n), o.days(seed, d, odds, n)); break; }
            default: due.is("day " + seed, x.day(seed, odds, n), o.day(seed, odds, n)); break;
        }
    }
}
