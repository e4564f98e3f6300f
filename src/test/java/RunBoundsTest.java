/** Terms I to III and promises 6 to 25: each bound of one COACH's run, on it, just inside, just outside. */
public final class RunBoundsTest {
    private static final int NOTHING = -1000000;
    private static final String WORLD = "line long 50;platform at 20 to 30;platform at 35 to 50;"
            + "kind long 5 roll 0 brakes 1 2 3;kind long 30 roll 1 brakes 2 4 9;train starts 0 speed 10 loses 1;"
            + "coach 0 for 0 at 10;coach 1 for 1 at 20;train starts 60 speed 5 loses 0;coach 0 for 1 at 30;";
    /** At 12 or less it STANDS at once, whatever is done: where it may STAND shows by where it is. */
    private static final String STEEP = "line long 50;slope at 0 up 9;kind long 5 roll 3 brakes 1 2 3;";
    private static final Due DUE = new Due();

    public static void main(String[] args) {
        numbersOfYards();
        slopes();
        wets();
        limits();
        numbersOfCoaches();
        rains();
        posts();
        shifts();
        swaps();
        numbersOfTicks();
        leastAndMostSpeed();
        cutBrakes();
        ofThatYard();
        numbersOfAims();
        edgesOfPlatforms();
        shortPlatforms();
        endOfLine();
        hardest();
        quickest();
        jolts();
        whereItStands();
        fromWhere();
        atWhichSpeeds();
        howWet();
        rooms();
        toldRows();
        judgedRows();
        DUE.close("RunBoundsTest");
    }

    private static SlipCoach world() {
        return Due.told(WORLD);
    }

    // Promise 6, and SLOPE, WET, LIMIT of a YARD.

    private static void numbersOfYards() {
        SlipCoach x = world();
        for (int what = 0; what < 3; what++) {
            int asked = what;
            Bounds.of(DUE, "yard of what " + what, 0, 50, -2, n -> x.yard(n, asked));
        }
        Bounds.of(DUE, "what of yard", 0, 2, -2, n -> x.yard(0, n));
        Bounds.of(DUE, "what of the last yard", 0, 2, -2, n -> x.yard(50, n));
        SlipCoach least = Due.told("line long 20;");
        Bounds.of(DUE, "yard of the least LINE", 0, 20, -2, n -> least.yard(n, 2));
        SlipCoach most = Due.told("line long 400;");
        Bounds.of(DUE, "yard of the longest LINE", 0, 400, -2, n -> most.yard(n, 2));
        SlipCoach none = new SlipCoach();
        DUE.is("yard without a LINE", none.yard(0, 0), -2);
    }

    private static void slopeIs(String clauses, int yard, int want) {
        DUE.is("SLOPE of " + yard + " by " + clauses, Due.told("line long 50;" + clauses).yard(yard, 0), want + 10);
    }

    private static void slopes() {
        slopeIs("", 0, 0);
        slopeIs("", 50, 0);
        slopeIs("slope at 0 up 9;", 0, 9);
        slopeIs("slope at 0 down 9;", 0, -9);
        slopeIs("slope at 0 up 0;", 0, 0);
        slopeIs("slope at 10 up 1;", 9, 0);
        slopeIs("slope at 10 up 1;", 10, 1);
        slopeIs("slope at 10 up 1;", 11, 1);
        slopeIs("slope at 50 down 1;", 49, 0);
        slopeIs("slope at 50 down 1;", 50, -1);
        slopeIs("slope at 10 up 1;slope at 10 down 2;", 10, -2);
        slopeIs("slope at 20 up 1;slope at 10 down 2;", 19, -2);
        slopeIs("slope at 20 up 1;slope at 10 down 2;", 20, -2);
        slopeIs("slope at 10 up 1;slope at 20 down 2;", 19, 1);
        slopeIs("slope at 10 up 1;slope at 20 down 2;", 20, -2);
    }

    private static void wets() {
        SlipCoach x = Due.told("line long 50;wet at 10 to 20 by 40;wet at 20 to 30 by 30;wet at 25 to 25 by 100;"
                + "wet at 50 to 50 by 1;wet at 0 to 0 by 0;");
        int[][] due = {{0, 0}, {9, 0}, {10, 40}, {11, 40}, {19, 40}, {20, 40}, {21, 30}, {24, 30}, {25, 100}, {26, 30},
            {29, 30}, {30, 30}, {31, 0}, {49, 0}, {50, 1}};
        int[] rains = {0, 1, 29, 30, 31, 39, 40, 41, 99, 100};
        for (int rain : rains) {
            x.rain(rain);
            for (int[] d : due) {
                DUE.is("WET of " + d[0] + " in RAIN " + rain, x.yard(d[0], 1), Math.max(rain, d[1]));
            }
        }
    }

    private static void limits() {
        SlipCoach x = Due.told("line long 50;limit at 10 of 1;limit at 50 of 15;limit at 20 of 14;");
        int[][] due = {{0, 15}, {9, 15}, {10, 1}, {11, 1}, {19, 1}, {20, 14}, {49, 14}, {50, 14}};
        for (int[] d : due) {
            DUE.is("LIMIT of " + d[0], x.yard(d[0], 2), d[1]);
        }
        SlipCoach last = Due.told("line long 50;limit at 20 of 14;limit at 50 of 1;");
        DUE.is("LIMIT of 49", last.yard(49, 2), 14);
        DUE.is("LIMIT of 50", last.yard(50, 2), 1);
    }

    // Promises 7 to 11.

    private static void numbersOfCoaches() {
        SlipCoach x = world();
        for (int what = 0; what < 5; what++) {
            int asked = what;
            Bounds.of(DUE, "coach of what " + what, 0, 2, -2, n -> x.coach(n, asked));
        }
        for (int coach = 0; coach < 3; coach++) {
            int asked = coach;
            Bounds.of(DUE, "what of coach " + coach, 0, 4, -2, n -> x.coach(asked, n));
        }
        DUE.is("the first is behind none", x.coach(0, 4), 0);
        DUE.is("the second is behind one", x.coach(1, 4), 1);
        DUE.is("the first of another TRAIN is behind none", x.coach(2, 4), 0);
        DUE.is("no COACH", Due.told("line long 50;").coach(0, 0), -2);
    }

    private static void rains() {
        SlipCoach x = world();
        int[] wrong = {-1, 101, 102, Integer.MAX_VALUE, Integer.MIN_VALUE, 256, 65536 + 5};
        int[] right = {0, 1, 50, 99, 100, 100, 0};
        int had = 0;
        for (int n : right) {
            DUE.is("rain(" + n + ")", x.rain(n), had);
            had = n;
            for (int w : wrong) {
                DUE.is("rain(" + w + ")", x.rain(w), -2);
                DUE.is("RAIN stays", x.count(7), had);
                DUE.is("WET stays", x.yard(0, 1), had);
            }
        }
        SlipCoach none = new SlipCoach();
        DUE.is("rain without a LINE", none.rain(0), -2);
        DUE.is("rain without a LINE", none.rain(100), -2);
        DUE.is("it does not RAIN", none.count(7), 0);
    }

    private static void posts() {
        SlipCoach x = world();
        Bounds.of(DUE, "coach of post", 0, 2, -2, n -> x.post(n, 9));
        Bounds.of(DUE, "yard of post", 0, 50, -2, n -> x.post(0, n));
        DUE.is("the last one that was taken", x.post(0, 0), 50);
        DUE.is("it is 0 from now on", x.coach(0, 3), 0);
        DUE.is("beyond long", x.post(0, 51), -2);
        DUE.is("below 0", x.post(0, -1), -2);
        DUE.is("it stays", x.coach(0, 3), 0);
        DUE.is("others stay", x.coach(1, 3), 9);
        DUE.is("no COACH", Due.told("line long 50;").post(0, 0), -2);
        DUE.is("no LINE", new SlipCoach().post(0, 0), -2);
    }

    private static void shifts() {
        SlipCoach x = world();
        Bounds.of(DUE, "train of shift", 0, 1, -2, n -> x.shift(n, 9));
        Bounds.of(DUE, "tick of shift", 0, 300, -2, n -> x.shift(0, n));
        DUE.is("the last one that was taken", x.shift(0, 0), 300);
        DUE.is("it is 0 from now on", x.passes(0, 0), 0);
        DUE.is("above 300", x.shift(0, 301), -2);
        DUE.is("below 0", x.shift(0, -1), -2);
        DUE.is("it stays", x.passes(0, 0), 0);
        DUE.is("the other stays", x.passes(1, 0), 9);
        DUE.is("no TRAIN", Due.told("line long 50;").shift(0, 0), -2);
        DUE.is("no LINE", new SlipCoach().shift(0, 0), -2);
    }

    private static void swaps() {
        SlipCoach x = world();
        Bounds.of(DUE, "one of swap", 0, 0, -2, n -> x.swap(n, 1));
        DUE.is("swapped once", x.coach(0, 4), 1);
        Bounds.of(DUE, "other of swap", 1, 1, -2, n -> x.swap(0, n));
        DUE.is("swapped back", x.coach(0, 4), 0);
        int[][] wrong = {{0, 0}, {1, 1}, {2, 2}, {0, 2}, {2, 0}, {1, 2}, {2, 1}, {3, 3}, {-1, -1}, {3, 0}, {0, 3}};
        for (int[] w : wrong) {
            DUE.is("swap(" + w[0] + ", " + w[1] + ")", x.swap(w[0], w[1]), -2);
            for (int c = 0; c < 3; c++) {
                DUE.is("the rows stay", x.coach(c, 4), c % 2);
            }
        }
        DUE.is("swap", x.swap(1, 0), 0);
        DUE.is("the places change", x.coach(0, 4), 1);
        DUE.is("the places change", x.coach(1, 4), 0);
        DUE.is("POSTS go with their COACHES", x.coach(0, 3), 10);
    }

    // Promise 12 and term II.

    private static void numbersOfTicks() {
        SlipCoach x = world();
        for (int what = 0; what < 2; what++) {
            int asked = what;
            Bounds.of(DUE, "kind of tick", 0, 1, -2, n -> x.tick(n, 0, 1, 0, asked));
            Bounds.of(DUE, "yard of tick", 0, 50, -2, n -> x.tick(0, n, 1, 0, asked));
            Bounds.of(DUE, "speed of tick", 1, 15, -2, n -> x.tick(0, 0, n, 0, asked));
            Bounds.of(DUE, "step of tick", 0, 3, -2, n -> x.tick(0, 0, 1, n, asked));
        }
        Bounds.of(DUE, "what of tick", 0, 1, -2, n -> x.tick(0, 0, 1, 0, n));
        DUE.is("no KIND", Due.told("line long 50;").tick(0, 0, 1, 0, 0), -2);
        DUE.is("beyond long", x.tick(0, 50, 15, 0, 0), 65);
        DUE.is("just beyond long", x.tick(0, 50, 1, 0, 0), 51);
        DUE.is("at long", x.tick(0, 49, 1, 0, 0), 50);
        DUE.is("at long it STANDS", x.tick(0, 50, 1, 1, 0), 50);
        DUE.is("at long it STANDS", x.tick(0, 50, 1, 1, 1), 0);
    }

    /** 0 at least, 15 at most: one less, just so, one more. */
    private static void leastAndMostSpeed() {
        for (int slope = -9; slope <= 9; slope++) {
            SlipCoach x = Due.told("line long 400;slope at 0 " + (slope < 0 ? "down " : "up ") + Math.abs(slope)
                    + ";kind long 1 roll 0 brakes 1 5 9;kind long 1 roll 3 brakes 2 4 8;");
            int[][] takes = {{0, 1, 5, 9}, {3, 5, 7, 11}};
            for (int kind = 0; kind < 2; kind++) {
                for (int step = 0; step < 4; step++) {
                    for (int speed = 1; speed <= 15; speed++) {
                        int left = speed - takes[kind][step] - slope;
                        int due = left < 0 ? 0 : left > 15 ? 15 : left;
                        String call = "SPEED " + speed + " of KIND " + kind + " by STEP " + step + ", SLOPE " + slope;
                        DUE.is(call, x.tick(kind, 7, speed, step, 1), due);
                        DUE.is(call, x.tick(kind, 7, speed, step, 0), 7 + due);
                    }
                }
            }
        }
    }

    /** Each brake in each RAIN, cut: the whole hundreds of brake times (100 less WET). */
    private static void cutBrakes() {
        for (int wet = 0; wet <= 100; wet++) {
            SlipCoach x = Due.told("line long 20;kind long 1 roll 0 brakes 1 2 3;kind long 1 roll 0 brakes 4 5 6;"
                    + "kind long 1 roll 0 brakes 7 8 9;");
            x.rain(wet);
            for (int brake = 1; brake <= 9; brake++) {
                int hundreds = 0;
                while ((hundreds + 1) * 100 <= brake * (100 - wet)) {
                    hundreds++;
                }
                DUE.is("brake " + brake + " in WET " + wet, x.tick((brake - 1) / 3, 0, 15, (brake - 1) % 3 + 1, 1), 15 - hundreds);
            }
            DUE.is("no brake in WET " + wet, x.tick(0, 0, 15, 0, 1), 15);
        }
    }

    /** SLOPE and WET are those of the YARD from which it goes. */
    private static void ofThatYard() {
        SlipCoach x = Due.told("line long 50;slope at 20 up 4;wet at 30 to 30 by 50;kind long 1 roll 0 brakes 2 4 8;");
        DUE.is("ahead of the SLOPE", x.tick(0, 19, 10, 0, 1), 10);
        DUE.is("on it", x.tick(0, 20, 10, 0, 1), 6);
        DUE.is("ahead of the WET", x.tick(0, 29, 15, 3, 1), 3);
        DUE.is("on it", x.tick(0, 30, 15, 3, 1), 7);
        DUE.is("behind it", x.tick(0, 31, 15, 3, 1), 3);
    }

    // Promises 13 to 18 and term III.

    private static void numbersOfAims() {
        SlipCoach x = world();
        String[] names = {"can", "step", "handled", "hard", "quick", "jolt", "wetter", "judge"};
        x.row(3, 0, 1);
        for (int i = 0; i < names.length; i++) {
            int call = i;
            Bounds.of(DUE, "kind of " + names[i], 0, 1, -2, n -> ask(x, call, n, 0, 10, 5));
            Bounds.of(DUE, "platform of " + names[i], 0, 1, -2, n -> ask(x, call, 0, n, 10, 5));
            Bounds.of(DUE, "yard of " + names[i], 0, 50, -2, n -> ask(x, call, 0, 0, n, 5));
            Bounds.of(DUE, "speed of " + names[i], 1, 15, -2, n -> ask(x, call, 0, 0, 10, n));
        }
        Bounds.of(DUE, "what of handled", 0, 2, -2, n -> x.handled(0, 0, 10, 5, n));
        Bounds.of(DUE, "what of handled that can't be", 0, 2, -2, n -> x.handled(0, 0, 31, 5, n));
        SlipCoach kinds = Due.told("line long 50;kind long 5 roll 0 brakes 1 2 3;");
        SlipCoach platforms = Due.told("line long 50;platform at 20 to 30;");
        SlipCoach none = new SlipCoach();
        kinds.row(3, 0, 1);
        platforms.row(3, 0, 1);
        none.row(3, 0, 1);
        for (int i = 0; i < names.length; i++) {
            DUE.is(names[i] + " without a PLATFORM", ask(kinds, i, 0, 0, 0, 1), -2);
            DUE.is(names[i] + " without a KIND", ask(platforms, i, 0, 0, 0, 1), -2);
            DUE.is(names[i] + " without a LINE", ask(none, i, 0, 0, 0, 1), -2);
        }
    }

    private static int ask(SlipCoach x, int call, int kind, int platform, int yard, int speed) {
        switch (call) {
            case 0: return x.can(kind, platform, yard, speed);
            case 1: return x.step(kind, platform, yard, speed);
            case 2: return x.handled(kind, platform, yard, speed, 0);
            case 3: return x.hard(kind, platform, yard, speed);
            case 4: return x.quick(kind, platform, yard, speed);
            case 5: return x.jolt(kind, platform, yard, speed);
            case 6: return x.wetter(kind, platform, yard, speed);
            default: return x.judge(3, kind, platform, yard, speed);
        }
    }

    /** Its front not beyond to, its tail not ahead of at; else none of the calls finds a HANDLING. */
    private static void standsAtOnceFrom(String platform, int first, int last) {
        SlipCoach x = Due.told(STEEP + platform);
        for (int yard = 0; yard <= 50; yard++) {
            boolean in = yard >= first && yard <= last;
            String at = platform + " at " + yard;
            DUE.is("can of " + at, x.can(0, 0, yard, 12), in ? 1 : 0);
            DUE.is("step of " + at, x.step(0, 0, yard, 12), in ? 0 : -1);
            DUE.is("handled sum of " + at, x.handled(0, 0, yard, 12, 0), in ? 0 : -1);
            DUE.is("handled ticks of " + at, x.handled(0, 0, yard, 12, 1), in ? 1 : -1);
            DUE.is("handled where of " + at, x.handled(0, 0, yard, 12, 2), in ? yard : -1);
            DUE.is("quick of " + at, x.quick(0, 0, yard, 12), in ? 1 : -1);
            DUE.is("jolt of " + at, x.jolt(0, 0, yard, 12), in ? 12 : -1);
        }
        boolean some = first <= last;
        DUE.is("first post of " + platform, x.posts(0, 0, 12, 0), some ? first : -1);
        DUE.is("last post of " + platform, x.posts(0, 0, 12, 1), some ? last : -1);
        DUE.is("posts of " + platform, x.posts(0, 0, 12, 2), some ? last - first + 1 : 0);
    }

    private static void edgesOfPlatforms() {
        standsAtOnceFrom("platform at 20 to 30;", 25, 30);
        standsAtOnceFrom("platform at 0 to 6;", 5, 6);
        standsAtOnceFrom("platform at 0 to 50;", 5, 50);
        standsAtOnceFrom("platform at 44 to 50;", 49, 50);
    }

    /** A PLATFORM just as long as a KIND has one YARD for it, a shorter one none. */
    private static void shortPlatforms() {
        standsAtOnceFrom("platform at 20 to 26;", 25, 26);
        standsAtOnceFrom("platform at 20 to 25;", 25, 25);
        standsAtOnceFrom("platform at 20 to 24;", 25, 24);
        standsAtOnceFrom("platform at 20 to 20;", 25, 20);
        standsAtOnceFrom("platform at 45 to 50;", 50, 50);
        standsAtOnceFrom("platform at 46 to 50;", 51, 50);
        standsAtOnceFrom("platform at 50 to 50;", 55, 50);
        standsAtOnceFrom("platform at 0 to 5;", 5, 5);
        standsAtOnceFrom("platform at 0 to 4;", 5, 4);
        int[][] rooms = {{20, 26, 1}, {20, 25, 0}, {20, 24, -1}, {20, 20, -5}, {0, 50, 45}};
        for (int[] r : rooms) {
            DUE.is("room from " + r[0] + " to " + r[1],
                    Due.told(STEEP + "platform at " + r[0] + " to " + r[1] + ";").room(0, 0), r[2]);
        }
    }

    /** It may come to long, and STAND there; beyond it has run off. */
    private static void endOfLine() {
        SlipCoach x = Due.told("line long 50;platform at 40 to 50;kind long 5 roll 0 brakes 1 2 3;");
        DUE.is("to long in two TICKS", x.can(0, 0, 47, 4), 1);
        DUE.is("from 48 by 4: 50 by 2, 0", x.handled(0, 0, 48, 4, 2), 50);
        DUE.is("at long by 3", x.can(0, 0, 50, 3), 1);
        DUE.is("at long by 4", x.can(0, 0, 50, 4), 0);
        DUE.is("from 49 by 4: 50 by 1, 0", x.handled(0, 0, 49, 4, 2), 50);
        DUE.is("from 49 by 5: 51", x.can(0, 0, 49, 5), 0);
    }

    /** HARD: a PLATFORM of one YARD at the very place makes it STAND at once. */
    private static void hardest() {
        SlipCoach x = Due.told("line long 50;platform at 45 to 50;kind long 5 roll 1 brakes 1 4 8;");
        int[] due = {0, 1, 2, 2, 2, 3, 3, 3, 3, -1, -1, -1, -1, -1, -1};
        for (int speed = 1; speed <= 15; speed++) {
            DUE.is("hard at long by " + speed, x.hard(0, 0, 50, speed), due[speed - 1]);
        }
    }

    /** QUICK is 1 at least; by a SPEED that never falls it is one TICK a YARD, and the last one. */
    private static void quickest() {
        SlipCoach x = Due.told("line long 400;platform at 399 to 400;kind long 1 roll 0 brakes 1 1 1;");
        DUE.is("quick at long", x.quick(0, 0, 400, 1), 1);
        DUE.is("quick from 0 by 1", x.quick(0, 0, 0, 1), 401);
        DUE.is("handled from 0 by 1", x.handled(0, 0, 0, 1, 1), 401);
        DUE.is("handled from 0 by 1", x.handled(0, 0, 0, 1, 0), 1);
        DUE.is("handled from 0 by 1", x.handled(0, 0, 0, 1, 2), 400);
        DUE.is("quick at long by 2", x.quick(0, 0, 400, 2), -1);
    }

    /** JOLT 15 from 15 to a stand; 1 where it rolls out; what it gains is no JOLT. */
    private static void jolts() {
        SlipCoach x = Due.told(STEEP + "platform at 45 to 50;");
        for (int speed = 1; speed <= 15; speed++) {
            DUE.is("jolt at long by " + speed, x.jolt(0, 0, 50, speed), speed);
        }
        SlipCoach roll = Due.told("line long 400;platform at 0 to 400;kind long 1 roll 1 brakes 9 9 9;");
        for (int speed = 1; speed <= 15; speed++) {
            DUE.is("jolt rolling out from " + speed, roll.jolt(0, 0, 200, speed), 1);
        }
        SlipCoach down = Due.told("line long 50;slope at 0 down 9;slope at 11 up 2;platform at 0 to 50;"
                + "kind long 1 roll 0 brakes 1 1 1;");
        // 10 by 1: 11 by 10 at 9 or less; then by 2 a TICK at the least.
        DUE.is("jolt of what gains first", down.jolt(0, 0, 10, 1), 2);
    }

    // Promises 19 to 25.

    private static void whereItStands() {
        SlipCoach x = world();
        Bounds.of(DUE, "kind of stands", 0, 1, -2, n -> x.stands(n, 0, 1, 2));
        Bounds.of(DUE, "yard of stands", 0, 50, -2, n -> x.stands(0, n, 1, 2));
        Bounds.of(DUE, "speed of stands", 1, 15, -2, n -> x.stands(0, 0, n, 2));
        Bounds.of(DUE, "what of stands", 0, 2, -2, n -> x.stands(0, 0, 1, n));
        Bounds.of(DUE, "what of stands nowhere", 0, 2, -2, n -> x.stands(0, 50, 15, n));
        standsAre(x, 50, 3, 50, 50, 1);
        standsAre(x, 50, 4, -1, -1, 0);
        standsAre(x, 49, 4, 50, 50, 1);
        standsAre(x, 49, 5, -1, -1, 0);
        standsAre(x, 0, 1, 0, 50, 51);
        standsAre(x, 48, 5, 50, 50, 1);
        standsAre(x, 47, 3, 47, 50, 4);
        SlipCoach steep = Due.told(STEEP);
        standsAre(steep, 50, 12, 50, 50, 1);
        standsAre(steep, 0, 12, 0, 0, 1);
        standsAre(steep, 0, 15, 0, 3, 4);
        standsAre(steep, 49, 15, 49, 50, 2);
        DUE.is("no KIND", Due.told("line long 50;").stands(0, 0, 1, 2), -2);
        DUE.is("no PLATFORM is asked for", Due.told(STEEP).stands(0, 0, 1, 2), 1);
    }

    private static void standsAre(SlipCoach x, int yard, int speed, int first, int last, int many) {
        int[] due = {first, last, many};
        for (int what = 0; what < 3; what++) {
            DUE.is("stands from " + yard + " by " + speed + ", " + what, x.stands(0, yard, speed, what), due[what]);
        }
    }

    private static void fromWhere() {
        SlipCoach x = world();
        Bounds.of(DUE, "kind of posts", 0, 1, -2, n -> x.posts(n, 0, 5, 2));
        Bounds.of(DUE, "platform of posts", 0, 1, -2, n -> x.posts(0, n, 5, 2));
        Bounds.of(DUE, "speed of posts", 1, 15, -2, n -> x.posts(0, 0, n, 2));
        Bounds.of(DUE, "what of posts", 0, 2, -2, n -> x.posts(0, 0, 5, n));
        Bounds.of(DUE, "what of posts from none", 0, 2, -2, n -> x.posts(1, 0, 5, n));
        DUE.is("from none: the first", x.posts(1, 0, 5, 0), -1);
        DUE.is("from none: the last", x.posts(1, 0, 5, 1), -1);
        DUE.is("from none: how many", x.posts(1, 0, 5, 2), 0);
        // By 1 it may from all YARDS up to to; by 9 only where it STANDS at once, or a 9 ahead of that.
        SlipCoach jumps = Due.told("line long 50;platform at 29 to 30;kind long 1 roll 0 brakes 9 9 9;");
        int[] due = {3, 30, 4};
        for (int what = 0; what < 3; what++) {
            DUE.is("posts that lie apart " + what, jumps.posts(0, 0, 9, what), due[what]);
        }
        int[] all = {0, 30, 31};
        for (int what = 0; what < 3; what++) {
            DUE.is("posts of 1 " + what, jumps.posts(0, 0, 1, what), all[what]);
        }
    }

    private static void atWhichSpeeds() {
        SlipCoach x = world();
        Bounds.of(DUE, "kind of speeds", 0, 1, -2, n -> x.speeds(n, 0, 5));
        Bounds.of(DUE, "platform of speeds", 0, 1, -2, n -> x.speeds(0, n, 5));
        Bounds.of(DUE, "yard of speeds", 0, 50, -2, n -> x.speeds(0, 0, n));
        SlipCoach steep = Due.told(STEEP + "platform at 20 to 25;");
        DUE.is("all of them, bits 1 to 15", steep.speeds(0, 0, 25), 65534);
        DUE.is("none of them", steep.speeds(0, 0, 26), 0);
        // From 24 only one that is left by 1 comes to 25: 13 by STEP 0, 14 by 1, 15 by 2.
        DUE.is("from 24", steep.speeds(0, 0, 24), 1 << 13 | 1 << 14 | 1 << 15);
        DUE.is("from 22: 15 by STEP 0 alone", steep.speeds(0, 0, 22), 1 << 15);
        DUE.is("from 21", steep.speeds(0, 0, 21), 0);
    }

    private static void wetterIs(String clauses, int yard, int speed, int want) {
        SlipCoach x = Due.told("line long 20;platform at 19 to 20;" + clauses);
        int[] rains = {0, 77, 100};
        for (int rain : rains) {
            x.rain(rain);
            DUE.is("wetter by " + clauses + " from " + yard + " by " + speed, x.wetter(0, 0, yard, speed), want);
            DUE.is("RAIN stays", x.count(7), rain);
            DUE.is("WET stays", x.yard(0, 1), rain);
        }
    }

    private static void howWet() {
        wetterIs("kind long 1 roll 0 brakes 1 1 1;", 20, 1, 0);
        wetterIs("kind long 1 roll 0 brakes 1 1 1;", 20, 2, -1);
        wetterIs("kind long 1 roll 1 brakes 1 1 1;", 20, 1, 100);
        wetterIs("kind long 1 roll 1 brakes 1 1 1;", 20, 2, 0);
        wetterIs("kind long 1 roll 0 brakes 1 1 9;", 20, 9, 0);
        wetterIs("kind long 1 roll 0 brakes 1 1 9;", 20, 8, 11);
        wetterIs("kind long 1 roll 0 brakes 9 1 1;", 20, 1, 88);
        wetterIs("kind long 1 roll 0 brakes 1 9 1;", 20, 10, -1);
        wetterIs("kind long 1 roll 0 brakes 9 1 1;wet at 20 to 20 by 50;", 20, 4, 55);
        wetterIs("kind long 1 roll 0 brakes 9 1 1;wet at 20 to 20 by 50;", 20, 5, -1);
        wetterIs("kind long 1 roll 0 brakes 9 1 1;wet at 20 to 20 by 89;", 20, 1, -1);
        // By 9, .., 5 and 4 from 15 to 20; not by 3 (17, 19); by 2 again (18, 19, 20).
        wetterIs("kind long 1 roll 0 brakes 9 9 9;", 15, 5, 55);
        SlipCoach x = Due.told("line long 20;platform at 19 to 20;kind long 1 roll 0 brakes 9 9 9;");
        int[][] due = {{55, 1}, {56, 0}, {66, 0}, {67, 1}, {77, 1}, {78, 0}};
        for (int[] d : due) {
            x.rain(d[0]);
            DUE.is("can in RAIN " + d[0], x.can(0, 0, 15, 5), d[1]);
        }
    }

    private static void rooms() {
        SlipCoach x = world();
        Bounds.of(DUE, "kind of room", 0, 1, NOTHING, n -> x.room(n, 0));
        Bounds.of(DUE, "platform of room", 0, 1, NOTHING, n -> x.room(0, n));
        DUE.is("room without a KIND", Due.told("line long 50;platform at 0 to 9;").room(0, 0), NOTHING);
        DUE.is("room without a PLATFORM", Due.told(STEEP).room(0, 0), NOTHING);
        DUE.is("room without a LINE", new SlipCoach().room(0, 0), NOTHING);
    }

    private static void toldRows() {
        SlipCoach x = world();
        for (int slot = 0; slot < 4; slot++) {
            DUE.is("told by nothing", x.told(slot, 0, 0, 1), -6);
            x.row(slot, slot, 1);
        }
        Bounds.of(DUE, "slot of told", 0, 3, -2, n -> x.told(n, 0, 0, 1));
        Bounds.of(DUE, "kind of told", 0, 1, -2, n -> x.told(0, n, 0, 1));
        Bounds.of(DUE, "yard of told", 0, 50, -2, n -> x.told(0, 0, n, 1));
        Bounds.of(DUE, "speed of told", 1, 15, -2, n -> x.told(0, 0, 0, n));
        SlipCoach none = new SlipCoach();
        DUE.is("no LINE is asked ahead of nothing", none.told(0, 0, 0, 1), -2);
        SlipCoach y = world();
        DUE.is("a KIND is asked ahead of nothing", y.told(0, 2, 0, 1), -2);
        DUE.is("a YARD is asked ahead of nothing", y.told(0, 0, 51, 1), -2);
        DUE.is("a SPEED is asked ahead of nothing", y.told(0, 0, 0, 16), -2);
        DUE.is("nothing", y.told(0, 0, 50, 15), -6);
        y.row(0, 0, 0);
        DUE.is("no number: STEP 3 at once", y.told(0, 0, 50, 3), 50);
        DUE.is("no number: it runs off", y.told(0, 0, 50, 4), -1);
        DUE.is("to long itself", y.told(0, 0, 49, 4), 50);
        y.row(0, 3, 60);
        DUE.is("50 YARDS by 60 numbers of 0, it runs off", y.told(0, 0, 0, 1), -1);
        y.write(0, 50, 1);
        DUE.is("the 51st number", y.told(0, 0, 0, 1), 50);
        DUE.is("one YARD on: it runs off", y.told(0, 0, 1, 1), -1);
        y.write(0, 49, 1);
        DUE.is("the 50th number", y.told(0, 0, 0, 1), 49);
        long[] steps = {0, 1, 2, 3};
        long[] none3 = {-1, 4, Long.MAX_VALUE, Long.MIN_VALUE, 1L << 32, (1L << 32) + 3};
        for (long v : steps) {
            y.write(0, 59, v);
            DUE.is("a STEP of " + v, y.told(0, 0, 0, 1), 49);
        }
        for (long v : none3) {
            y.write(0, 59, v);
            DUE.is("no STEP: " + v, y.told(0, 0, 0, 1), -2);
            DUE.is("no STEP: " + v, y.judge(0, 0, 0, 0, 1), -2);
        }
    }

    private static void judgedRows() {
        SlipCoach x = world();
        DUE.is("judge by nothing", x.judge(0, 0, 0, 0, 1), -6);
        DUE.is("a PLATFORM is asked ahead of nothing", x.judge(0, 0, 2, 0, 1), -2);
        DUE.is("a YARD is asked ahead of nothing", x.judge(0, 0, 0, -1, 1), -2);
        for (int slot = 0; slot < 4; slot++) {
            x.row(slot, slot, 60);
        }
        Bounds.of(DUE, "slot of judge", 0, 3, -2, n -> x.judge(n, 0, 0, 0, 1));
        // By 1 from 0 it is at 30 behind TICK 29, at 31 behind TICK 30.
        DUE.is("too far behind TICK 30", x.judge(0, 0, 0, 0, 1), 30);
        x.row(0, 0, 31);
        DUE.is("too far behind the last", x.judge(0, 0, 0, 0, 1), 30);
        x.row(0, 0, 30);
        DUE.is("it still can", x.judge(0, 0, 0, 0, 1), 30);
        x.row(0, 0, 29);
        DUE.is("it still can", x.judge(0, 0, 0, 0, 1), 29);
        x.row(0, 0, 0);
        DUE.is("no number: behind none", x.judge(0, 0, 0, 0, 1), 0);
        DUE.is("no number: behind none, though it can't", x.judge(0, 0, 0, 50, 15), 0);
        x.row(0, 0, 2);
        DUE.is("it can't from the first", x.judge(0, 0, 0, 31, 1), 0);
        DUE.is("it has run off", x.judge(0, 0, 0, 50, 15), 0);
        x.write(0, 0, 1);
        DUE.is("it STANDS at 25, just there", x.judge(0, 0, 0, 25, 1), 2);
        DUE.is("it STANDS at 24, just ahead", x.judge(0, 0, 0, 24, 1), 0);
        DUE.is("it STANDS at 30, just there", x.judge(0, 0, 0, 30, 1), 2);
        DUE.is("it STANDS at 31, just behind", x.judge(0, 0, 0, 31, 1), 0);
    }
}
