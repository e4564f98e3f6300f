import java.math.BigInteger;

/** Terms IV to VII and promises 26 to 43: each bound of TRAINS and what they let go. */
public final class TrainBoundsTest {
    private static final int NOTHING = -1000000;
    private static final String WORLD = "line long 50;platform at 20 to 30;platform at 35 to 50;"
            + "kind long 5 roll 0 brakes 1 2 3;kind long 30 roll 1 brakes 2 4 9;train starts 0 speed 10 loses 1;"
            + "coach 0 for 0 at 10;coach 0 for 1 at 20;train starts 60 speed 5 loses 0;coach 0 for 1 at 30;";
    /** A COACH that is let go at 12 or less STANDS at once, one TICK behind, where it was let go. */
    private static final String STEEP = "line long 50;slope at 0 up 9;kind long 5 roll 3 brakes 1 2 3;";
    private static final String SLOW = "train starts 0 speed 1 loses 0;";
    private static final Due DUE = new Due();

    public static void main(String[] args) {
        withoutLine();
        withoutTrains();
        numbersOfPulls();
        leastSpeed();
        whenPassed();
        nothingAtStart();
        postsAtTheFront();
        lastComesFirst();
        limitOfTheFront();
        goneAtLong();
        goneAtStart();
        letGoAtTheEnd();
        inItsPlatform();
        clearOfTheLine();
        numbersOfComes();
        breachAtStart();
        breachAtTheTail();
        breachOfCoaches();
        breachOfSeveral();
        breachOfGone();
        numbersOfMistakes();
        mistakesAtTheEnds();
        weakBrakes();
        starts();
        shuntings();
        ordersAndBlocks();
        saves();
        bestAndMargin();
        numbersOfDays();
        draws();
        DUE.close("TrainBoundsTest");
    }

    private static SlipCoach world() {
        return Due.told(WORLD);
    }

    /** STEEP, one PLATFORM, one TRAIN of 1 YARD a TICK, its COACH let go at this POST: at 6 YARDS at least. */
    private static SlipCoach steep(String platform, int post) {
        return Due.told(STEEP + "platform at " + platform + ";" + SLOW + "coach 0 for 0 at " + post + ";");
    }

    private static void withoutLine() {
        SlipCoach x = new SlipCoach();
        DUE.is("pulls", x.pulls(0, 0, 0), -2);
        DUE.is("passes", x.passes(0, 0), -2);
        DUE.is("lets", x.lets(0, 0), -2);
        DUE.is("comes", x.comes(0, 0), -2);
        DUE.is("comes, what 2", x.comes(0, 2), -2);
        DUE.is("clear", x.clear(0), -2);
        DUE.is("good", x.good(), -1);
        for (int n = 0; n < 3; n++) {
            DUE.is("breach", x.breach(n), -2);
            DUE.is("mistake", x.mistake(n, 0), -2);
        }
        DUE.is("weak", x.weak(0), -2);
        DUE.is("start", x.start(0), -2);
        DUE.is("shunts", x.shunts(0, 0), -2);
        DUE.is("order", x.order(0, 0), -2);
        DUE.is("blocked", x.blocked(0), -2);
        DUE.is("saved", x.saved(0, 0), NOTHING);
        DUE.is("best", x.best(0), -2);
        DUE.is("margin", x.margin(0, 0), -2);
        DUE.is("days", x.days(0, 1, 0, 0), -2);
        DUE.is("day", x.day(0, 0, 0), -2);
    }

    /** A LINE without TRAINS has no BREACH, and none STANDS. */
    private static void withoutTrains() {
        SlipCoach x = Due.told("line long 20;");
        DUE.is("good", x.good(), 0);
        for (int n = 0; n < 3; n++) {
            DUE.is("breach", x.breach(n), -1);
            DUE.is("mistake", x.mistake(n, 99), -1);
        }
        DUE.is("breach of no such what", x.breach(3), -2);
        DUE.is("weak", x.weak(99), 0);
        DUE.is("days", x.days(0, 20, 100, 99), 0);
        DUE.is("day", x.day(0, 100, 99), 0);
        DUE.is("pulls", x.pulls(0, 0, 0), -2);
        DUE.is("passes", x.passes(0, 0), -2);
        DUE.is("lets", x.lets(0, 0), -2);
        DUE.is("start", x.start(0), -2);
        DUE.is("shunts", x.shunts(0, 0), -2);
        DUE.is("order", x.order(0, 0), -2);
        DUE.is("blocked", x.blocked(0), -2);
        DUE.is("saved", x.saved(0, 0), NOTHING);
        DUE.is("best", x.best(0), -2);
        SlipCoach empty = Due.told("line long 20;" + SLOW);
        DUE.is("passes by a TRAIN of no COACH", empty.passes(0, 20), 20);
        DUE.is("good of a TRAIN of no COACH", empty.good(), 0);
        DUE.is("breach of one TRAIN", empty.breach(0), -1);
        DUE.is("start of one TRAIN", empty.start(0), 0);
        DUE.is("shunts of no COACH", empty.shunts(0, 0), 0);
        DUE.is("shunts of no COACH", empty.shunts(0, 1), 0);
        DUE.is("order of no COACH", empty.order(0, 0), -1);
        DUE.is("blocked of no COACH", empty.blocked(0), -1);
        DUE.is("saved of no COACH", empty.saved(0, 99), 0);
        DUE.is("lets of no COACH", empty.lets(0, 0), -2);
    }

    // Promises 26 and 27.

    private static void numbersOfPulls() {
        SlipCoach x = world();
        Bounds.of(DUE, "train of pulls", 0, 1, -2, n -> x.pulls(n, 0, 0));
        Bounds.of(DUE, "yard of pulls", 0, 50, -2, n -> x.pulls(0, n, 0));
        Bounds.of(DUE, "coaches of pulls", 0, 16, -2, n -> x.pulls(0, 0, n));
        Bounds.of(DUE, "train of passes", 0, 1, -2, n -> x.passes(n, 0));
        Bounds.of(DUE, "yard of passes", 0, 50, -2, n -> x.passes(0, n));
    }

    /** The lesser one of LIMIT and what the COACHES leave, 1 at least. */
    private static void leastSpeed() {
        for (int loses = 0; loses <= 5; loses++) {
            SlipCoach x = Due.told("line long 50;limit at 10 of 1;limit at 20 of 6;limit at 30 of 15;"
                    + "train starts 0 speed 7 loses " + loses + ";");
            for (int many = 0; many <= 16; many++) {
                int own = 7 - loses * many;
                int[][] due = {{0, 15}, {9, 15}, {10, 1}, {19, 1}, {20, 6}, {29, 6}, {30, 15}, {50, 15}};
                for (int[] d : due) {
                    DUE.is("pulls at " + d[0] + " with " + many + " by " + loses, x.pulls(0, d[0], many),
                            Math.max(1, Math.min(own, d[1])));
                }
            }
        }
    }

    private static void whenPassed() {
        SlipCoach x = Due.told("line long 50;platform at 0 to 9;kind long 5 roll 0 brakes 1 2 3;"
                + "train starts 300 speed 15 loses 0;coach 0 for 0 at 50;coach 0 for 0 at 50;");
        // Its front is at 10 behind 300, then 25, 40, 55.
        int[][] due = {{0, 300}, {9, 300}, {10, 300}, {11, 301}, {25, 301}, {26, 302}, {40, 302}, {41, 303}, {50, 303}};
        for (int[] d : due) {
            DUE.is("passes " + d[0], x.passes(0, d[0]), d[1]);
        }
    }

    // Promises 28 to 31 and term IV.

    private static void letsAre(SlipCoach x, int coach, int tick, int yard, int speed) {
        int[] due = {tick, yard, speed};
        for (int what = 0; what < 3; what++) {
            DUE.is("lets(" + coach + ", " + what + ")", x.lets(coach, what), due[what]);
        }
    }

    /** Nothing is LET GO behind START; a TICK later it is, be its POST 0 or the first front. */
    private static void nothingAtStart() {
        for (int post = 0; post <= 6; post++) {
            letsAre(steep("0 to 50", post), 0, 1, 6, 1);
        }
        SlipCoach x = steep("0 to 50", 0);
        x.shift(0, 300);
        letsAre(x, 0, 301, 6, 1);
    }

    /** A POST no more than the front's YARD. */
    private static void postsAtTheFront() {
        SlipCoach x = Due.told(STEEP + "platform at 0 to 50;train starts 0 speed 10 loses 0;coach 0 for 0 at 0;");
        int[][] due = {{14, 1, 15}, {15, 1, 15}, {16, 2, 25}, {25, 2, 25}, {26, 3, 35}, {45, 4, 45}, {46, 5, 55}, {50, 5, 55}};
        for (int[] d : due) {
            x.post(0, d[0]);
            letsAre(x, 0, d[1], d[2], 10);
        }
    }

    /** As long as the last one has such a POST; one behind keeps those ahead of it back. */
    private static void lastComesFirst() {
        SlipCoach x = Due.told(STEEP + "platform at 0 to 50;" + SLOW + "coach 0 for 0 at 20;coach 0 for 0 at 21;");
        // Behind START its front is at 10.
        letsAre(x, 1, 11, 16, 1);
        letsAre(x, 0, 11, 21, 1);
        x.post(1, 20);
        letsAre(x, 1, 10, 15, 1);
        letsAre(x, 0, 10, 20, 1);
        x.post(1, 19);
        letsAre(x, 1, 9, 14, 1);
        letsAre(x, 0, 10, 20, 1);
        x.swap(0, 1);
        letsAre(x, 0, 10, 15, 1);
        letsAre(x, 1, 10, 20, 1);
        SlipCoach loses = Due.told(STEEP + "platform at 0 to 50;train starts 0 speed 3 loses 1;"
                + "coach 0 for 0 at 14;coach 0 for 0 at 11;");
        // 10, by 1 to 11: one is LET GO, by 2 to 13, 15.
        letsAre(loses, 1, 1, 6, 1);
        letsAre(loses, 0, 3, 15, 2);
    }

    /** The LIMIT of the YARD of its front ahead of the TICK. */
    private static void limitOfTheFront() {
        SlipCoach x = Due.told("line long 50;limit at 10 of 2;limit at 12 of 15;train starts 0 speed 10 loses 0;");
        // 0, 10, 12, 22.
        int[][] due = {{10, 1}, {11, 2}, {12, 2}, {13, 3}, {22, 3}, {23, 4}};
        for (int[] d : due) {
            DUE.is("passes " + d[0], x.passes(0, d[0]), d[1]);
        }
        SlipCoach nine = Due.told("line long 50;limit at 11 of 2;train starts 0 speed 10 loses 0;");
        DUE.is("not yet at 10", nine.passes(0, 20), 2);
    }

    /** At long it is gone, a YARD ahead of it not: another one reaches it there, or does not. */
    private static void goneAtLong() {
        // By 10: 0, 10, 20 is gone from a LINE of 20; on one of 21 it is on the LINE behind TICK 2.
        for (int length = 20; length <= 21; length++) {
            SlipCoach x = Due.told("line long " + length + ";train starts 0 speed 10 loses 0;"
                    + "train starts 1 speed 15 loses 0;");
            DUE.is("passes the end of " + length, x.passes(0, length), length - 18);
            // Behind TICK 2 the other one is at 15, behind TICK 3 it would be gone.
            DUE.is("breach on " + length, x.breach(0), -1);
        }
        SlipCoach near = Due.told("line long 31;train starts 0 speed 10 loses 0;train starts 1 speed 15 loses 0;");
        // Behind 3 at 30 both.
        DUE.is("breach a YARD ahead of long", near.breach(0), 3);
        SlipCoach far = Due.told("line long 30;train starts 0 speed 10 loses 0;train starts 1 speed 15 loses 0;");
        DUE.is("no breach at long", far.breach(0), -1);
    }

    private static void neverLet(SlipCoach x) {
        for (int what = 0; what < 3; what++) {
            DUE.is("never LET GO: lets " + what, x.lets(0, what), -1);
            DUE.is("never LET GO: comes " + what, x.comes(0, what), what == 2 ? NOTHING : -1);
        }
        DUE.is("never LET GO: clear", x.clear(0), -1);
        DUE.is("never LET GO: good", x.good(), 0);
        DUE.is("never LET GO: best", x.best(0), -1);
        DUE.is("never LET GO: margin", x.margin(0, 0), -1);
        DUE.is("never LET GO: margin", x.margin(0, 1), -1);
        DUE.is("gone at START", x.passes(0, 20), 7);
        DUE.is("saved at one PLATFORM", x.saved(0, 99), 99);
        DUE.is("breach", x.breach(0), -1);
    }

    /** A TRAIN as long as the LINE is gone at START, with all its COACHES. */
    private static void goneAtStart() {
        String platform = "line long 20;platform at 0 to 20;slope at 0 up 9;";
        String train = "train starts 7 speed 1 loses 0;coach 0 for 0 at 0;";
        neverLet(Due.told(platform + "kind long 20 roll 3 brakes 1 2 3;" + train));
        neverLet(Due.told(platform + "kind long 21 roll 3 brakes 1 2 3;" + train));
        SlipCoach x = Due.told(platform + "kind long 19 roll 3 brakes 1 2 3;" + train);
        letsAre(x, 0, 8, 20, 1);
        DUE.is("it STANDS at long", x.comes(0, 0), 20);
        DUE.is("behind TICK 9", x.comes(0, 1), 9);
        DUE.is("in its PLATFORM", x.comes(0, 2), 0);
        DUE.is("good", x.good(), 1);
    }

    /** Behind what it has LET GO in that TICK: at long it is on the LINE, beyond it has run off. */
    private static void letGoAtTheEnd() {
        SlipCoach at = steep("45 to 50", 50);
        letsAre(at, 0, 45, 50, 1);
        DUE.is("comes at long", at.comes(0, 0), 50);
        DUE.is("clear at long", at.clear(0), 46);
        // By 10 from 5: 45, then 55: the COACH is let go there.
        SlipCoach beyond = Due.told(STEEP + "platform at 45 to 50;train starts 0 speed 10 loses 0;coach 0 for 0 at 50;");
        letsAre(beyond, 0, 5, 55, 10);
        DUE.is("comes beyond long", beyond.comes(0, 0), -1);
        DUE.is("comes beyond long", beyond.comes(0, 1), -1);
        DUE.is("comes beyond long", beyond.comes(0, 2), NOTHING);
        DUE.is("run off in that TICK", beyond.clear(0), 5);
        // Two of them: the last one is let go at 50, 5 YARDS behind.
        SlipCoach two = Due.told(STEEP + "platform at 45 to 50;train starts 5 speed 15 loses 0;"
                + "coach 0 for 0 at 50;coach 0 for 0 at 50;");
        // 10, 25, 40, 55.
        letsAre(two, 0, 8, 55, 15);
        letsAre(two, 1, 8, 50, 15);
        DUE.is("the first has run off", two.comes(0, 0), -1);
        DUE.is("the last STANDS at long", two.comes(1, 0), 50);
        DUE.is("good", two.good(), 1);
    }

    private static void comesTo(String platform, int post, int yard, int shortOf) {
        SlipCoach x = steep(platform, post);
        String name = "POST " + post + ", PLATFORM " + platform;
        DUE.is("comes 0 of " + name, x.comes(0, 0), yard);
        DUE.is("comes 1 of " + name, x.comes(0, 1), yard - 4);
        DUE.is("comes 2 of " + name, x.comes(0, 2), shortOf);
        DUE.is("clear of " + name, x.clear(0), shortOf == 0 ? yard - 4 : -1);
        DUE.is("good of " + name, x.good(), shortOf == 0 ? 1 : 0);
        DUE.is("day of " + name, x.day(0, 0, 0), shortOf == 0 ? 1 : 0);
    }

    private static void inItsPlatform() {
        comesTo("20 to 30", 23, 23, 2);
        comesTo("20 to 30", 24, 24, 1);
        comesTo("20 to 30", 25, 25, 0);
        comesTo("20 to 30", 26, 26, 0);
        comesTo("20 to 30", 29, 29, 0);
        comesTo("20 to 30", 30, 30, 0);
        comesTo("20 to 30", 31, 31, -1);
        comesTo("20 to 30", 32, 32, -2);
        comesTo("20 to 30", 50, 50, -20);
        comesTo("20 to 30", 0, 6, 19);
        comesTo("20 to 25", 25, 25, 0);
        // Shorter than the COACH: short of at first, beyond to else, never in it.
        comesTo("20 to 22", 24, 24, 1);
        comesTo("20 to 22", 25, 25, -3);
        comesTo("20 to 24", 24, 24, 1);
        comesTo("20 to 24", 25, 25, -1);
        comesTo("50 to 50", 50, 50, 5);
    }

    private static void clearOfTheLine() {
        SlipCoach x = Due.told("line long 50;kind long 5 roll 0 brakes 1 2 3;platform at 20 to 30;"
                + "train starts 0 speed 10 loses 0;coach 0 for 0 at 45;");
        // Let go at 45 by 10: 52, by STEP 3.
        letsAre(x, 0, 4, 45, 10);
        DUE.is("run off", x.clear(0), 5);
        DUE.is("run off", x.comes(0, 0), -1);
        DUE.is("run off", x.comes(0, 1), -1);
        DUE.is("run off", x.comes(0, 2), NOTHING);
        x.post(0, 35);
        // 42, 46, 47, 47.
        DUE.is("for good", x.clear(0), -1);
        DUE.is("for good", x.comes(0, 0), 47);
        DUE.is("for good", x.comes(0, 1), 7);
        DUE.is("for good", x.comes(0, 2), -17);
    }

    private static void numbersOfComes() {
        SlipCoach x = world();
        Bounds.of(DUE, "coach of lets", 0, 2, -2, n -> x.lets(n, 0));
        Bounds.of(DUE, "what of lets", 0, 2, -2, n -> x.lets(0, n));
        for (int what = 0; what < 3; what++) {
            int asked = what;
            Bounds.of(DUE, "coach of comes, what " + what, 0, 2, -2, n -> x.comes(n, asked));
        }
        Bounds.of(DUE, "coach of clear", 0, 2, -2, n -> x.clear(n));
        SlipCoach in = steep("20 to 30", 25);
        Bounds.of(DUE, "what of comes", 0, 2, -2, n -> in.comes(0, n));
        Bounds.of(DUE, "what of breach", 0, 2, -2, n -> x.breach(n));
    }

    // Promise 32 and term V.

    private static void breachIs(SlipCoach x, int tick, int behind, int reached) {
        int[] due = {tick, behind, reached};
        for (int what = 0; what < 3; what++) {
            DUE.is("breach(" + what + ")", x.breach(what), due[what]);
        }
        Bounds.of(DUE, "what of breach", 0, 2, -2, n -> x.breach(n));
    }

    /** START's own YARD, too; of one TICK the lesser number is ahead. */
    private static void breachAtStart() {
        SlipCoach x = Due.told("line long 20;" + SLOW + SLOW);
        breachIs(x, 0, 1, 100);
        x.shift(1, 1);
        breachIs(x, -1, -1, -1);
        x.shift(1, 0);
        x.shift(0, 1);
        breachIs(x, -1, -1, -1);
        x.shift(0, 300);
        x.shift(1, 300);
        breachIs(x, 300, 1, 100);
        x.shift(1, 280);
        breachIs(x, -1, -1, -1);
        x.shift(1, 299);
        breachIs(x, -1, -1, -1);
    }

    /** At the tail, or beyond; a YARD short of it there is none. */
    private static void breachAtTheTail() {
        String text = "line long 50;platform at 0 to 50;kind long 5 roll 0 brakes 1 2 3;"
                + "train starts 0 speed 1 loses 0;coach 0 for 0 at 50;train starts 0 speed 1 loses 0;";
        SlipCoach x = Due.told(text);
        // Both tails are at 0 behind TICK 0, the other front, too.
        breachIs(x, 0, 1, 100);
        x.shift(1, 1);
        breachIs(x, -1, -1, -1);
        SlipCoach fast = Due.told("line long 50;platform at 0 to 50;kind long 5 roll 0 brakes 1 2 3;"
                + "train starts 0 speed 1 loses 0;coach 0 for 0 at 50;train starts 7 speed 2 loses 0;");
        // The tail is at t, the other front at 2 (t - 7): at 14 both.
        breachIs(fast, 14, 1, 100);
        fast.shift(1, 23);
        // At 46 both, behind which the first one is gone from 45 on.
        breachIs(fast, -1, -1, -1);
        fast.shift(1, 22);
        // Behind 44 at 44 both; the first one's front is at 49.
        breachIs(fast, 44, 1, 100);
    }

    /** A COACH on the LINE: from the TICK it is LET GO, not behind the one in which it STANDS in its PLATFORM. */
    private static void breachOfCoaches() {
        String text = STEEP + "platform at 20 to 30;" + SLOW + "coach 0 for 0 at 25;train starts 0 speed 1 loses 0;";
        SlipCoach x = Due.told(text);
        x.shift(1, 1);
        // Let go behind 20 at 25, its tail at 20; it STANDS in its PLATFORM behind 21.
        breachIs(x, -1, -1, -1);
        x.post(0, 24);
        // It STANDS at 24 for good, its tail at 19, which the other one reaches behind 20.
        breachIs(x, 20, 1, 0);
        x.shift(1, 300);
        breachIs(x, 319, 1, 0);
        SlipCoach late = Due.told(STEEP + "platform at 20 to 30;" + SLOW + "coach 0 for 0 at 25;train starts 18 speed 10 loses 0;");
        // 20 behind TICK 20, just as the COACH is LET GO with its tail there.
        breachIs(late, 20, 1, 0);
        late.shift(1, 19);
        // 20 behind TICK 21: it STANDS. The TRAIN is at 26 then, 27 when the other is at 30.
        DUE.is("not the COACH any more", late.breach(2), 100);
        DUE.is("not the COACH any more", late.breach(0), 22);
        SlipCoach off = Due.told("line long 50;kind long 5 roll 0 brakes 1 1 1;platform at 0 to 50;"
                + "train starts 0 speed 15 loses 0;coach 0 for 0 at 50;train starts 4 speed 15 loses 0;");
        // 5, 20, 35, 50: LET GO at long behind 3, its tail at 45; 64 behind 4: it has run off.
        DUE.is("LET GO at long", off.lets(0, 1), 50);
        DUE.is("run off", off.clear(0), 4);
        breachIs(off, -1, -1, -1);
    }

    /** The least TRAIN that comes behind, then the least COACH, then the least TRAIN that is reached. */
    private static void breachOfSeveral() {
        String coaches = "coach 0 for 0 at 17;coach 0 for 0 at 16;";
        SlipCoach x = Due.told(STEEP + "platform at 0 to 5;train starts 0 speed 1 loses 0;" + coaches
                + "train starts 100 speed 15 loses 0;train starts 100 speed 15 loses 0;");
        // The COACHES STAND at 11 and 17, their tails at 6 and 12: both are reached behind 101.
        DUE.is("tails", x.comes(1, 0), 11);
        DUE.is("tails", x.comes(0, 0), 17);
        breachIs(x, 100, 2, 101);
        x.shift(2, 300);
        breachIs(x, 101, 1, 0);
        x.shift(1, 300);
        // TRAIN 2 is behind TRAIN 1 at the very START.
        breachIs(x, 300, 2, 101);
        x.shift(2, 299);
        breachIs(x, 300, 2, 0);
        SlipCoach both = Due.told(STEEP + "platform at 0 to 5;train starts 0 speed 1 loses 0;" + coaches
                + "train starts 100 speed 3 loses 0;train starts 99 speed 6 loses 0;");
        // Behind 100 TRAIN 2 is at 6, TRAIN 1 at 0; behind 100 it reaches COACH 1.
        breachIs(both, 100, 2, 1);
        SlipCoach two = Due.told(STEEP + "platform at 0 to 5;train starts 0 speed 1 loses 0;" + coaches
                + "train starts 98 speed 3 loses 0;train starts 99 speed 6 loses 0;");
        // Behind 100 both are at 6: the lesser number is told, though it is ahead.
        breachIs(two, 100, 1, 1);
        SlipCoach trains = Due.told("line long 50;" + SLOW + SLOW.replace("0 speed", "1 speed")
                + "train starts 2 speed 5 loses 0;");
        // Behind 3 at 3, 2, 5: TRAIN 2 is beyond both.
        breachIs(trains, 3, 2, 100);
    }

    /** A COACH counts also when the TRAIN that let it go is gone. */
    private static void breachOfGone() {
        SlipCoach x = Due.told(STEEP + "platform at 0 to 5;train starts 0 speed 12 loses 0;coach 0 for 0 at 17;"
                + "train starts 200 speed 1 loses 0;");
        DUE.is("it STANDS", x.comes(0, 0), 17);
        DUE.is("its TRAIN is gone", x.passes(0, 50), 4);
        breachIs(x, 212, 1, 0);
    }

    // Promises 33 to 35.

    private static void numbersOfMistakes() {
        SlipCoach x = world();
        Bounds.of(DUE, "sort of mistake", 0, 2, -2, n -> x.mistake(n, 0));
        for (int sort = 0; sort < 3; sort++) {
            int asked = sort;
            Bounds.of(DUE, "yards of mistake", 0, 99, -2, n -> x.mistake(asked, n));
        }
        Bounds.of(DUE, "yards of weak", 0, 99, -2, n -> x.weak(n));
    }

    /** A POST is 0 at least, long at most; by 0 YARDS there is no MISTAKE of sorts 0 and 1. */
    private static void mistakesAtTheEnds() {
        String later = SLOW.replace("starts 0", "starts 20");
        SlipCoach x = Due.told(STEEP + "platform at 20 to 30;" + SLOW + "coach 0 for 0 at 28;" + later);
        DUE.is("in its PLATFORM", x.breach(0), -1);
        int[][] earlier = {{0, -1}, {1, -1}, {3, -1}, {4, 0}, {27, 0}, {28, 0}, {29, 0}, {99, 0}};
        for (int[] d : earlier) {
            DUE.is("earlier by " + d[0], x.mistake(0, d[0]), d[1]);
        }
        int[][] after = {{0, -1}, {2, -1}, {3, 0}, {21, 0}, {22, 0}, {23, 0}, {99, 0}};
        for (int[] d : after) {
            DUE.is("later by " + d[0], x.mistake(1, d[0]), d[1]);
        }
        DUE.is("weak by 0", x.weak(0), 0);
        DUE.is("weak by 2", x.weak(2), 0);
        DUE.is("weak by 3", x.weak(3), 1);
        DUE.is("weak by 4", x.weak(4), 2);
        DUE.is("weak by 99", x.weak(99), 2);
        // At long it STANDS in its PLATFORM: later than long it can't be.
        SlipCoach end = steep("45 to 50", 49);
        DUE.is("at 49 it is short", end.good(), 0);
        // Seed 1 draws 38, then 58: sort 1.
        DUE.is("later by 1", end.day(1, 100, 1), 1);
        DUE.is("later by 2 is long", end.day(1, 100, 2), 1);
        DUE.is("later by 99 is long", end.day(1, 100, 99), 1);
        DUE.is("later by 0", end.day(1, 100, 0), 0);
    }

    /** STEP 0 takes nothing, STEP 1 what 0 should, .., STEP 3 what 2 should; roll and SLOPE stay. */
    private static void weakBrakes() {
        SlipCoach x = Due.told("line long 50;slope at 0 up 1;kind long 5 roll 1 brakes 1 3 9;platform at 45 to 50;"
                + "train starts 0 speed 5 loses 0;coach 0 for 0 at 50;");
        // Let go at long by 5 behind TICK 9: it takes 5 by STEP 2; the weak one takes 3, and goes on by 2.
        DUE.is("by STEP 2", x.step(0, 0, 50, 5), 2);
        DUE.is("good", x.day(0, 0, 0), 1);
        // Seed 0 draws 0, then 68: sort 2.
        DUE.is("weak", x.day(0, 1, 0), 0);
        SlipCoach roll = Due.told("line long 50;slope at 0 up 2;kind long 5 roll 3 brakes 1 3 9;platform at 45 to 50;"
                + "train starts 0 speed 5 loses 0;coach 0 for 0 at 50;");
        DUE.is("by STEP 0 a weak brake is as good", roll.day(0, 1, 0), 1);
    }

    private static void starts() {
        SlipCoach x = world();
        Bounds.of(DUE, "train of start", 0, 1, -2, n -> x.start(n));
        // A COACH that is on the LINE for good is ahead of all that START later, and of none that STARTS earlier.
        SlipCoach good = Due.told(STEEP + "platform at 0 to 5;" + SLOW.replace("starts 0", "starts 300")
                + "coach 0 for 0 at 17;train starts 300 speed 1 loses 0;");
        DUE.is("START of the other one", good.start(1), 0);
        DUE.is("by none: from 0 to 300 it is ahead, or reached", good.start(0), -1);
        DUE.is("the START stays", good.passes(1, 0), 300);
        // By 2: k TICKS behind START s it is at 2 k, the other at s + k.
        startIs(20, 2, 10);
        startIs(21, 2, 11);
        startIs(400, 2, 200);
        // By 14: 13 k is s at least, and 14 k below long, for 23 TICKS and s of 299, not for 300.
        startIs(323, 14, 300);
        startIs(336, 14, 300);
        // By 13: 12 k is 300 for 25 TICKS, at YARD 325.
        startIs(326, 13, -1);
        startIs(325, 13, 289);
    }

    /** TRAIN 0 goes by 1 from 0 on; the first START of another one that does not reach it ahead of long. */
    private static void startIs(int length, int speed, int want) {
        SlipCoach x = Due.told("line long " + length + ";" + SLOW + "train starts 0 speed " + speed + " loses 0;");
        DUE.is("start on a LINE of " + length + " by " + speed, x.start(1), want);
        DUE.is("the START stays", x.passes(1, 0), 0);
        for (int s = Math.max(1, want - 2); s <= 300 && s <= want + 1; s++) {
            x.shift(1, s);
            DUE.is("a BREACH by START " + s, x.breach(0) < 0 ? 0 : 1, s < want ? 1 : 0);
        }
        x.shift(1, 300);
        DUE.is("a BREACH by START 300", x.breach(0) < 0 ? 0 : 1, want < 0 ? 1 : 0);
    }

    // Promises 36 to 39 and term VI.

    private static void shuntings() {
        SlipCoach x = world();
        Bounds.of(DUE, "train of shunts", 0, 1, -2, n -> x.shunts(n, 0));
        Bounds.of(DUE, "what of shunts", 0, 1, -2, n -> x.shunts(0, n));
        shuntsAre("0", 0, 0);
        shuntsAre("10", 0, 0);
        shuntsAre("00", 0, 0);
        shuntsAre("01", 1, 1);
        shuntsAre("012", 2, 3);
        shuntsAre("201", 1, 2);
        shuntsAre("0210", 1, 1);
        shuntsAre("0000000000000000", 0, 0);
        shuntsAre("0000000000000001", 1, 32768);
        shuntsAre("0111111111111111", 1, 1);
        shuntsAre("0101010101010101", 8, 0x5555);
    }

    /** COACHES for PLATFORMS from the engine on; a PLATFORM of a greater number is farther on. */
    private static void shuntsAre(String platforms, int many, int set) {
        StringBuilder text = new StringBuilder("line long 50;platform at 10 to 20;platform at 30 to 40;platform at 40 to 50;"
                + "kind long 1 roll 0 brakes 1 1 1;" + SLOW);
        for (int i = 0; i < platforms.length(); i++) {
            text.append("coach 0 for ").append(platforms.charAt(i)).append(" at 0;");
        }
        SlipCoach x = Due.told(text.toString());
        DUE.is("shunts of " + platforms, x.shunts(0, 0), many);
        DUE.is("shunts of " + platforms, x.shunts(0, 1), set);
        DUE.is("all sets tried: shunts of " + platforms, x.shunts(0, 1), leastOut(platforms));
    }

    /** All sets are tried, the least number first. */
    private static int leastOut(String platforms) {
        int best = -1;
        for (int out = 0; out < 1 << platforms.length(); out++) {
            char ahead = '9';
            boolean ordered = true;
            for (int i = 0; i < platforms.length() && ordered; i++) {
                if ((out >> i & 1) == 0) {
                    ordered = platforms.charAt(i) <= ahead;
                    ahead = platforms.charAt(i);
                }
            }
            if (ordered && (best < 0 || Integer.bitCount(out) < Integer.bitCount(best))) {
                best = out;
            }
        }
        return best;
    }

    private static void ordersAndBlocks() {
        SlipCoach x = world();
        Bounds.of(DUE, "train of order", 0, 1, -2, n -> x.order(n, 0));
        Bounds.of(DUE, "i of order", 0, 1, -1, n -> x.order(0, n));
        Bounds.of(DUE, "i of order of one", 0, 0, -1, n -> x.order(1, n));
        DUE.is("no such TRAIN, asked first", x.order(2, -1), -2);
        DUE.is("the farther PLATFORM is first", x.order(0, 0), 1);
        DUE.is("then the nearer", x.order(0, 1), 0);
        DUE.is("numbered over all TRAINS", x.order(1, 0), 2);
        Bounds.of(DUE, "train of blocked", 0, 1, -2, n -> x.blocked(n));
        int[][] posts = {{20, 20, -1}, {20, 19, -1}, {20, 21, 0}, {0, 50, 0}, {50, 0, -1}, {0, 0, -1}, {0, 1, 0}};
        for (int[] p : posts) {
            x.post(0, p[0]);
            x.post(1, p[1]);
            DUE.is("blocked by POSTS " + p[0] + ", " + p[1], x.blocked(0), p[2]);
            DUE.is("one alone is not", x.blocked(1), -1);
        }
        x.post(0, 0);
        x.post(1, 1);
        x.swap(0, 1);
        DUE.is("from the tail", x.blocked(0), -1);
    }

    private static void saves() {
        SlipCoach x = world();
        Bounds.of(DUE, "train of saved", 0, 1, NOTHING, n -> x.saved(n, 0));
        Bounds.of(DUE, "n of saved", 0, 99, NOTHING, n -> x.saved(0, n));
        DUE.is("n at each of two PLATFORMS", x.saved(0, 99) - x.saved(0, 0), 198);
        DUE.is("n at one PLATFORM", x.saved(1, 99) - x.saved(1, 0), 99);
        SlipCoach same = Due.told(STEEP + "platform at 0 to 5;platform at 0 to 5;" + SLOW
                + "coach 0 for 1 at 50;coach 0 for 1 at 50;");
        DUE.is("n once for two COACHES of one PLATFORM", same.saved(0, 7), 7);
        same = Due.told(STEEP + "platform at 0 to 5;platform at 0 to 5;" + SLOW + "coach 0 for 0 at 50;coach 0 for 1 at 50;");
        DUE.is("n twice for two PLATFORMS at one YARD", same.saved(0, 7), 14);
        SlipCoach slow = Due.told("line long 50;kind long 5 roll 0 brakes 1 1 1;platform at 0 to 5;"
                + "train starts 9 speed 3 loses 5;coach 0 for 0 at 0;");
        // All kept: 45 TICKS by 1. LET GO at 6 behind the first, then 44 YARDS by 3: 15 TICKS.
        DUE.is("what loses is less", slow.saved(0, 0), 45 - 16);
    }

    // Promises 40 to 43 and term VII.

    private static void bestAndMargin() {
        SlipCoach x = world();
        Bounds.of(DUE, "coach of best", 0, 2, -2, n -> x.best(n));
        Bounds.of(DUE, "coach of margin", 0, 2, -2, n -> x.margin(n, 0));
        Bounds.of(DUE, "what of margin", 0, 1, -2, n -> x.margin(0, n));
        marginIs("20 to 30", 25, 30);
        marginIs("20 to 25", 25, 25);
        marginIs("20 to 24", -1, -1);
        marginIs("0 to 6", 0, 6);
        marginIs("0 to 5", -1, -1);
        marginIs("1 to 7", 0, 7);
        marginIs("2 to 8", 7, 8);
        marginIs("0 to 50", 0, 50);
        marginIs("45 to 50", 50, 50);
        marginIs("44 to 49", 49, 49);
        marginIs("46 to 50", -1, -1);
    }

    private static void marginIs(String platform, int first, int last) {
        int[] posts = {0, 27, 50};
        for (int post : posts) {
            SlipCoach x = steep(platform, post);
            DUE.is("margin, first, of " + platform, x.margin(0, 0), first);
            DUE.is("margin, last, of " + platform, x.margin(0, 1), last);
            DUE.is("best of " + platform + ": by no STEP at all", x.best(0), first);
            DUE.is("the POST stays", x.coach(0, 3), post);
        }
    }

    private static void numbersOfDays() {
        SlipCoach x = world();
        Bounds.of(DUE, "seed of days", 0, 2000000000, -2, n -> x.days(n, 1, 50, 9));
        Bounds.of(DUE, "seed of 20 days", 0, 2000000000, -2, n -> x.days(n, 20, 50, 9));
        Bounds.of(DUE, "n of days", 1, 20, -2, n -> x.days(5, n, 50, 9));
        Bounds.of(DUE, "odds of days", 0, 100, -2, n -> x.days(5, 1, n, 9));
        Bounds.of(DUE, "yards of days", 0, 99, -2, n -> x.days(5, 1, 50, n));
        Bounds.of(DUE, "seed of day", 0, 2000000000, -2, n -> x.day(n, 50, 9));
        Bounds.of(DUE, "odds of day", 0, 100, -2, n -> x.day(5, n, 9));
        Bounds.of(DUE, "yards of day", 0, 99, -2, n -> x.day(5, 50, n));
    }

    /** By 30 YARDS there is a BREACH by sorts 1 and 2, none by sort 0 or without a MISTAKE. */
    private static void draws() {
        SlipCoach x = Due.told("line long 100;platform at 60 to 70;kind long 5 roll 0 brakes 1 2 3;"
                + "train starts 0 speed 10 loses 0;coach 0 for 0 at 50;train starts 5 speed 9 loses 0;");
        DUE.is("none without a MISTAKE", x.breach(0), -1);
        DUE.is("none by sort 0", x.mistake(0, 30), -1);
        DUE.is("by sort 1", x.mistake(1, 30), 0);
        DUE.is("by sort 2", x.mistake(2, 30), 0);
        int[] seeds = {0, 1, 2, 12345, 1073741823, 1999999981, 1999999999, 2000000000};
        int[] odds = {0, 1, 2, 50, 99, 100};
        int[] days = {1, 2, 19, 20};
        for (int seed : seeds) {
            for (int odd : odds) {
                for (int n : days) {
                    int due = 0;
                    for (int i = 0; i < n; i++) {
                        due += breachDrawn(BigInteger.valueOf(seed + (long) i), odd) ? 1 : 0;
                    }
                    DUE.is("days(" + seed + ", " + n + ", " + odd + ", 30)", x.days(seed, n, odd, 30), due);
                }
            }
        }
        DUE.is("no MISTAKE stays", x.breach(0), -1);
        drawsByCoach();
    }

    private static BigInteger next(BigInteger x) {
        return x.multiply(BigInteger.valueOf(1103515245)).add(BigInteger.valueOf(12345)).mod(BigInteger.ONE.shiftLeft(31));
    }

    private static int draw(BigInteger x) {
        return x.divide(BigInteger.valueOf(65536)).mod(BigInteger.valueOf(100)).intValue();
    }

    private static boolean breachDrawn(BigInteger seed, int odds) {
        BigInteger x = next(seed);
        return draw(x) < odds && draw(next(x)) % 3 != 0;
    }

    /** 16 COACHES of one YARD: COACH by COACH a draw, and one more for its sort. */
    private static void drawsByCoach() {
        SlipCoach x = Due.told("line long 50;slope at 0 up 9;kind long 1 roll 3 brakes 1 2 3;platform at 0 to 40;" + SLOW
                + "coach 0 for 0 at 49;".repeat(16));
        int[] seeds = {0, 7, 1234567, 2000000000};
        for (int seed : seeds) {
            DUE.is("none errs: all of them that go at 34 to 40", x.day(seed, 0, 99), 0xfe00);
            for (int yards = 0; yards < 12; yards++) {
                DUE.is("day of " + seed + " by " + yards, x.day(seed, 50, yards), dayDrawn(seed, 50, yards));
            }
        }
    }

    /** From the tail each goes where the front is at its POST, or at that of one behind it; by 1 a TICK. */
    private static int dayDrawn(int seed, int odds, int yards) {
        int[] posts = new int[16];
        BigInteger x = BigInteger.valueOf(seed);
        for (int c = 0; c < 16; c++) {
            posts[c] = 49;
            x = next(x);
            if (draw(x) < odds) {
                x = next(x);
                int sort = draw(x) % 3;
                posts[c] = sort == 0 ? 49 - yards : sort == 1 ? Math.min(50, 49 + yards) : 49;
            }
        }
        int bits = 0;
        int front = 17;
        for (int c = 15; c >= 0; c--) {
            front = Math.max(front, posts[c]);
            bits |= front - c <= 40 ? 1 << c : 0;
        }
        return bits;
    }
}
