/** All that calls can show of an object, in one text; it is not as it was behind that. */
final class Seen {
    private final SlipCoach x;
    private final StringBuilder text = new StringBuilder();

    private Seen(SlipCoach x) {
        this.x = x;
    }

    static String of(SlipCoach x) {
        Seen seen = new Seen(x);
        seen.present();
        seen.slots();
        seen.add("fault", x.fault(0), x.fault(1));
        // What the TAPE holds shows by what it tells.
        seen.add("line", x.count(6), x.line(), x.fault(0), x.fault(1));
        seen.present();
        for (int k = 0; k < 3; k++) {
            seen.add("image", k, x.back(k));
            seen.present();
        }
        return seen.text.toString();
    }

    private void add(String name, int... answers) {
        text.append('\n').append(name);
        for (int answer : answers) {
            text.append(' ').append(answer);
        }
    }

    private void present() {
        add("count", x.count(0), x.count(1), x.count(2), x.count(3), x.count(4), x.count(5), x.count(7));
        int[] yards = {0, 20, x.count(0)};
        for (int yard : yards) {
            add("yard", x.yard(yard, 0), x.yard(yard, 1), x.yard(yard, 2));
        }
        for (int kind = 0; kind < x.count(1); kind++) {
            add("kind", x.tick(kind, 20, 15, 0, 1), x.tick(kind, 20, 15, 3, 1), x.can(kind, 0, 9, 9), x.room(kind, 0));
        }
        for (int train = 0; train < x.count(3); train++) {
            add("train", x.passes(train, 0), x.passes(train, x.count(0)), x.pulls(train, 0, 1));
        }
        for (int coach = 0; coach < x.count(4); coach++) {
            add("coach", x.coach(coach, 0), x.coach(coach, 1), x.coach(coach, 2), x.coach(coach, 3), x.coach(coach, 4),
                    x.comes(coach, 0));
        }
        add("all", x.good(), x.breach(0), x.breach(1), x.breach(2));
    }

    /** By RAIN 0 even the least brake of the least STEP shows. */
    private void slots() {
        x.rain(0);
        add("slots", x.count(8));
        for (int slot = 0; slot < 4; slot++) {
            add("slot", x.told(slot, 0, 0, 1), x.told(slot, 0, 0, 9), x.told(slot, 0, 0, 15), x.judge(slot, 0, 1, 0, 1));
            for (int bits = 8; bits < 64; bits *= 2) {
                add("width", x.write(slot, 0, 1L << bits), x.told(slot, 0, 0, 1));
            }
        }
    }
}
