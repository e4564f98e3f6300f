import java.lang.management.ManagementFactory;
import java.lang.reflect.Method;
import java.lang.reflect.Modifier;
import java.util.Arrays;
import java.util.Random;

/** No call ever throws, whatever it is asked; and no call makes what it could use again. */
public final class RoomTest {
    /** 24 HANDLINGS of 401 YARDS and 16 SPEEDS are all that calls may add, and some bytes of head. */
    private static final long MOST_BYTES = 24L * (401 * 16 + 64);
    private static final int[] EDGES = {0, 1, 2, 3, -1, 4, 15, 16, 20, 60, 99, 100, 101, 300, 400, 401,
        Integer.MAX_VALUE, Integer.MIN_VALUE, 2000000000};
    private static final Due DUE = new Due();

    public static void main(String[] args) throws Exception {
        nothingThrown();
        littleMade();
        DUE.close("RoomTest");
    }

    private static void nothingThrown() throws Exception {
        Random random = new Random(11);
        Method[] all = methods();
        Worlds worlds = new Worlds(random);
        for (int run = 0; run < 60; run++) {
            SlipCoach x = run % 6 == 0 ? new SlipCoach() : Due.told(shortText(worlds));
            for (int call = 0; call < 400; call++) {
                Method m = all[random.nextInt(all.length)];
                Object[] with = new Object[m.getParameterCount()];
                for (int i = 0; i < with.length; i++) {
                    int n = argument(random);
                    if (m.getParameterTypes()[i] == long.class) {
                        with[i] = random.nextBoolean() ? (long) n : random.nextLong();
                    } else {
                        with[i] = n;
                    }
                }
                DUE.is(m.getName() + Arrays.toString(with), throwsAny(m, x, with) ? 1 : 0, 0);
            }
        }
    }

    private static int argument(Random random) {
        switch (random.nextInt(12)) {
            case 0: return random.nextInt();
            case 1: case 2: case 3: return EDGES[random.nextInt(EDGES.length)];
            default: return random.nextInt(17);
        }
    }

    private static Method[] methods() {
        return Arrays.stream(SlipCoach.class.getDeclaredMethods())
                .filter(m -> Modifier.isPublic(m.getModifiers()))
                .sorted((a, b) -> a.getName().compareTo(b.getName())).toArray(Method[]::new);
    }

    private static boolean throwsAny(Method m, SlipCoach x, Object[] with) throws IllegalAccessException {
        try {
            m.invoke(x, with);
            return false;
        } catch (java.lang.reflect.InvocationTargetException e) {
            System.out.println(m.getName() + Arrays.toString(with) + ": " + e.getCause());
            return true;
        }
    }

    private static String shortText(Worlds worlds) {
        String text = worlds.write(worlds.draw());
        while (text.length() > 1600) {
            text = worlds.write(worlds.draw());
        }
        return text;
    }

    private static void littleMade() {
        String text = "line long 400;platform at 60 to 90;platform at 200 to 250;platform at 300 to 390;"
                + "kind long 5 roll 0 brakes 1 2 3;kind long 8 roll 1 brakes 2 3 4;"
                + "train starts 0 speed 10 loses 0;coach 0 for 2 at 280;coach 1 for 1 at 180;coach 0 for 0 at 50;"
                + "train starts 20 speed 8 loses 1;coach 0 for 2 at 280;coach 1 for 1 at 180;coach 0 for 0 at 50;";
        com.sun.management.ThreadMXBean meter = (com.sun.management.ThreadMXBean) ManagementFactory.getThreadMXBean();
        long self = Thread.currentThread().getId();
        int[] fed = new int[(text.length() + 3) / 4 + 4];
        for (int i = 0; i < fed.length; i++) {
            fed[i] = Due.four(text, 4 * i);
        }
        SlipCoach x = new SlipCoach();
        work(x, fed, text.length());
        SlipCoach y = new SlipCoach();
        long before = meter.getThreadAllocatedBytes(self);
        long sum = work(y, fed, text.length());
        long made = meter.getThreadAllocatedBytes(self) - before;
        DUE.is("bytes made by 500 calls: " + made, made <= MOST_BYTES ? 1 : 0, 1);
        DUE.is("the same calls, the same answers", work(new SlipCoach(), fed, text.length()), sum);
    }

    private static long work(SlipCoach x, int[] fed, int length) {
        long sum = 0;
        for (int i = 0; i < 24; i++) {
            for (int j = 0; j + 5 <= fed.length; j += 5) {
                sum += x.feed(fed[j], fed[j + 1], fed[j + 2], fed[j + 3], fed[j + 4]);
            }
            sum += x.end(length) + x.line() + x.rain(i) + x.keep(0) + x.back(0) + x.row(0, 3, 60) + x.write(0, 1, 2);
            sum += x.weak(20) + x.start(1) + x.days(3, 20, 50, 40) + x.best(1) + x.margin(1, 1) + x.shunts(0, 1);
            sum += x.wetter(1, 1, 10, 9) + x.jolt(1, 2, 10, 9) + x.judge(0, 1, 2, 10, 9) + x.told(0, 0, 5, 7);
        }
        return sum;
    }
}
