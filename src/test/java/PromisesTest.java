/** Each promise by hand: ordinary inputs, the edges that the document names, wrong inputs. */
public final class PromisesTest {
    private static final int NOTHING = -1000000;
    private static final String ONE = "line long 100;platform at 60 to 70;kind long 5 roll 0 brakes 1 2 3;"
            + "train starts 0 speed 10 loses 0;coach 0 for 0 at 50;";
    private static final String THREE = "line long 200;platform at 50 to 80;platform at 120 to 150;"
            + "kind long 10 roll 0 brakes 2 4 6;train starts 3 speed 12 loses 2;"
            + "coach 0 for 0 at 30;coach 0 for 1 at 100;coach 0 for 0 at 40;";
    private static final Due DUE = new Due();

    public static void main(String[] args) {
        newObject();
        yards();
        coaches();
        changes();
        ticks();
        handlings();
        measures();
        reaches();
        roomsAndRows();
        trains();
        lettingGo();
        breaches();
        mistakes();
        orders();
        postsOfCoaches();
        days();
        countsAndImages();
        slots();
        DUE.close("PromisesTest");
    }

    private static void newObject() {
        SlipCoach x = new SlipCoach();
        DUE.is("NONE", SlipCoach.NONE, -1);
        for (int what = 0; what <= 8; what++) {
            DUE.is("count of a new one " + what, x.count(what), 0);
        }
        DUE.is("good", x.good(), -1);
        DUE.is("breach", x.breach(0), -2);
        DUE.is("mistake", x.mistake(0, 0), -2);
        DUE.is("weak", x.weak(0), -2);
        DUE.is("days", x.days(0, 1, 0, 0), -2);
        DUE.is("day", x.day(0, 0, 0), -2);
        DUE.is("rain", x.rain(0), -2);
        DUE.is("yard", x.yard(0, 0), -2);
        DUE.is("back", x.back(0), -6);
        DUE.is("a LINE of no CLAUSE is none", Due.told("\n").good(), -1);
    }

    /** The last as told, not the farthest. */
    private static void yards() {
        SlipCoach x = Due.told("line long 50;slope at 10 up 4;slope at 30 down 9;slope at 20 up 1;"
                + "wet at 5 to 8 by 60;wet at 7 to 7 by 90;limit at 40 of 3;limit at 40 of 7;limit at 45 of 2;");
        int[][] due = {{0, 10, 0, 15}, {5, 10, 60, 15}, {7, 10, 90, 15}, {8, 10, 60, 15}, {9, 10, 0, 15},
            {10, 14, 0, 15}, {19, 14, 0, 15}, {20, 11, 0, 15}, {30, 11, 0, 15}, {39, 11, 0, 15},
            {40, 11, 0, 7}, {44, 11, 0, 7}, {45, 11, 0, 2}, {50, 11, 0, 2}};
        for (int[] d : due) {
            for (int what = 0; what < 3; what++) {
                DUE.is("yard " + d[0] + " " + what, x.yard(d[0], what), d[what + 1]);
            }
        }
        DUE.is("yard down", Due.told("line long 20;slope at 0 down 9;").yard(0, 0), 1);
        DUE.is("yard(51)", x.yard(51, 0), -2);
        DUE.is("yard(-1)", x.yard(-1, 0), -2);
        DUE.is("yard what 3", x.yard(0, 3), -2);
        DUE.is("rain(60)", x.rain(60), 0);
        DUE.is("rain(61)", x.rain(61), 60);
        DUE.is("yard in RAIN", x.yard(0, 1), 61);
        DUE.is("yard in RAIN", x.yard(5, 1), 61);
        DUE.is("yard in RAIN", x.yard(7, 1), 90);
        DUE.is("rain(-1)", x.rain(-1), -2);
        DUE.is("rain(101)", x.rain(101), -2);
        DUE.is("rain(100)", x.rain(100), 61);
        DUE.is("RAIN", x.count(7), 100);
    }

    private static void coaches() {
        SlipCoach x = Due.told(THREE + "train starts 9 speed 1 loses 0;coach 0 for 1 at 200;");
        int[][] due = {{0, 0, 0, 30, 0}, {0, 0, 1, 100, 1}, {0, 0, 0, 40, 2}, {1, 0, 1, 200, 0}};
        for (int c = 0; c < due.length; c++) {
            for (int what = 0; what < 5; what++) {
                DUE.is("coach " + c + " " + what, x.coach(c, what), due[c][what]);
            }
        }
        DUE.is("coach(4)", x.coach(4, 0), -2);
        DUE.is("coach(-1)", x.coach(-1, 0), -2);
        DUE.is("coach what 5", x.coach(0, 5), -2);
        DUE.is("coach what -1", x.coach(0, -1), -2);
    }

    private static void changes() {
        SlipCoach x = Due.told(THREE + "train starts 9 speed 1 loses 0;coach 0 for 1 at 200;");
        DUE.is("post", x.post(1, 0), 100);
        DUE.is("post", x.post(1, 200), 0);
        DUE.is("post beyond", x.post(1, 201), -2);
        DUE.is("post below", x.post(1, -1), -2);
        DUE.is("post of none", x.post(4, 0), -2);
        DUE.is("POST", x.coach(1, 3), 200);
        DUE.is("shift", x.shift(0, 300), 3);
        DUE.is("shift", x.shift(0, 301), -2);
        DUE.is("shift", x.shift(0, -1), -2);
        DUE.is("shift", x.shift(2, 0), -2);
        DUE.is("shift", x.shift(0, 0), 300);
        DUE.is("swap", x.swap(0, 2), 0);
        DUE.is("swapped", x.coach(0, 4), 2);
        DUE.is("swapped", x.coach(1, 4), 1);
        DUE.is("swapped", x.coach(2, 4), 0);
        DUE.is("swap one twice", x.swap(1, 1), -2);
        DUE.is("swap of two TRAINS", x.swap(0, 3), -2);
        DUE.is("swap of none", x.swap(0, 4), -2);
        DUE.is("swap of none", x.swap(-1, 0), -2);
    }

    private static void ticks() {
        SlipCoach x = Due.told(ONE);
        DUE.is("tick", x.tick(0, 10, 10, 0, 0), 20);
        DUE.is("tick", x.tick(0, 10, 10, 0, 1), 10);
        DUE.is("tick", x.tick(0, 10, 10, 3, 0), 17);
        DUE.is("tick", x.tick(0, 10, 10, 3, 1), 7);
        DUE.is("tick to a stand", x.tick(0, 10, 3, 3, 0), 10);
        DUE.is("tick to a stand", x.tick(0, 10, 2, 3, 1), 0);
        DUE.is("tick beyond", x.tick(0, 100, 15, 0, 0), 115);
        int[][] wrong = {{1, 0, 1, 0, 0}, {-1, 0, 1, 0, 0}, {0, 101, 1, 0, 0}, {0, -1, 1, 0, 0}, {0, 0, 0, 0, 0},
            {0, 0, 16, 0, 0}, {0, 0, 1, 4, 0}, {0, 0, 1, -1, 0}, {0, 0, 1, 0, 2}, {0, 0, 1, 0, -1}};
        for (int[] a : wrong) {
            DUE.is("tick of none such", x.tick(a[0], a[1], a[2], a[3], a[4]), -2);
        }
        SlipCoach y = Due.told("line long 100;kind long 5 roll 2 brakes 3 5 9;slope at 20 up 3;slope at 40 down 9;"
                + "wet at 60 to 100 by 34;");
        DUE.is("roll", y.tick(0, 0, 10, 0, 1), 8);
        DUE.is("up", y.tick(0, 20, 10, 0, 1), 5);
        DUE.is("up and brake, 0 at least", y.tick(0, 20, 10, 3, 1), 0);
        DUE.is("down, 15 at most", y.tick(0, 40, 10, 0, 1), 15);
        DUE.is("down", y.tick(0, 40, 10, 0, 0), 55);
        DUE.is("wet: 3 * 66 / 100 is 1", y.tick(0, 60, 5, 1, 1), 11);
        DUE.is("wet: 5 * 66 / 100 is 3", y.tick(0, 60, 5, 2, 1), 9);
        y.rain(100);
        DUE.is("wet of the RAIN", y.tick(0, 0, 10, 3, 1), 8);
    }

    /** From 50: 1, 3, 2, 3, 1 to 59, 65, 69, 70, 70; the sum is 10 by every row that wastes nothing. */
    private static void handlings() {
        SlipCoach x = Due.told(ONE);
        DUE.is("can", x.can(0, 0, 58, 10), 1);
        DUE.is("can", x.can(0, 0, 59, 10), 0);
        DUE.is("step", x.step(0, 0, 50, 10), 1);
        DUE.is("step", x.step(0, 0, 58, 10), 3);
        DUE.is("step", x.step(0, 0, 59, 10), -1);
        DUE.is("handled sum", x.handled(0, 0, 50, 10, 0), 10);
        DUE.is("handled ticks", x.handled(0, 0, 50, 10, 1), 5);
        DUE.is("handled where", x.handled(0, 0, 50, 10, 2), 70);
        DUE.is("handled none", x.handled(0, 0, 59, 10, 0), -1);
        DUE.is("handled none", x.handled(0, 0, 59, 10, 1), -1);
        DUE.is("handled none", x.handled(0, 0, 59, 10, 2), -1);
        DUE.is("handled what", x.handled(0, 0, 50, 10, 3), -2);
        DUE.is("tail at the PLATFORM's at", x.can(0, 0, 65, 1), 1);
        DUE.is("tail ahead of it, but on it goes", x.step(0, 0, 64, 1), 0);
        DUE.is("front at to", x.can(0, 0, 70, 3), 1);
        DUE.is("front at to, too fast", x.can(0, 0, 70, 4), 0);
        DUE.is("front beyond to", x.can(0, 0, 71, 1), 0);
        for (int[] a : WRONG_AIMS) {
            DUE.is("can of none such", x.can(a[0], a[1], a[2], a[3]), -2);
            DUE.is("step of none such", x.step(a[0], a[1], a[2], a[3]), -2);
            DUE.is("handled of none such", x.handled(a[0], a[1], a[2], a[3], 0), -2);
            DUE.is("hard of none such", x.hard(a[0], a[1], a[2], a[3]), -2);
            DUE.is("quick of none such", x.quick(a[0], a[1], a[2], a[3]), -2);
            DUE.is("jolt of none such", x.jolt(a[0], a[1], a[2], a[3]), -2);
            DUE.is("wetter of none such", x.wetter(a[0], a[1], a[2], a[3]), -2);
        }
        SlipCoach free = Due.told("line long 60;platform at 10 to 60;kind long 1 roll 1 brakes 1 2 3;");
        DUE.is("rolling out takes no STEP", free.handled(0, 0, 20, 5, 0), 0);
        DUE.is("rolling out", free.handled(0, 0, 20, 5, 1), 5);
        DUE.is("rolling out", free.handled(0, 0, 20, 5, 2), 30);
        DUE.is("hard 0", free.hard(0, 0, 20, 5), 0);
        // a brake of STEP 1 that is the strongest
        SlipCoach odd = Due.told("line long 60;platform at 0 to 60;kind long 1 roll 0 brakes 9 1 1;");
        DUE.is("the least sum", odd.handled(0, 0, 20, 9, 0), 1);
        DUE.is("of like sums the least row", odd.step(0, 0, 20, 9), 0);
        DUE.is("of like sums the least row", odd.handled(0, 0, 20, 9, 2), 56);
    }

    private static final int[][] WRONG_AIMS = {{1, 0, 0, 1}, {-1, 0, 0, 1}, {0, 1, 0, 1}, {0, -1, 0, 1},
        {0, 0, 101, 1}, {0, 0, -1, 1}, {0, 0, 0, 0}, {0, 0, 0, 16}};

    private static void measures() {
        SlipCoach x = Due.told(ONE);
        DUE.is("hard", x.hard(0, 0, 50, 10), 2);
        DUE.is("hard", x.hard(0, 0, 58, 10), 3);
        DUE.is("hard", x.hard(0, 0, 25, 10), 1);
        DUE.is("hard", x.hard(0, 0, 59, 10), -1);
        DUE.is("quick", x.quick(0, 0, 50, 10), 4);
        DUE.is("quick", x.quick(0, 0, 70, 3), 1);
        DUE.is("quick", x.quick(0, 0, 59, 10), -1);
        DUE.is("jolt", x.jolt(0, 0, 50, 10), 2);
        DUE.is("jolt", x.jolt(0, 0, 58, 10), 3);
        DUE.is("jolt", x.jolt(0, 0, 70, 2), 2);
        DUE.is("jolt", x.jolt(0, 0, 59, 10), -1);
        SlipCoach weak = Due.told("line long 60;platform at 0 to 60;kind long 1 roll 0 brakes 9 1 1;");
        DUE.is("hard is not jolt", weak.hard(0, 0, 20, 9), 1);
        DUE.is("hard is not jolt", weak.jolt(0, 0, 50, 4), 1);
    }

    private static void reaches() {
        SlipCoach x = Due.told(ONE);
        DUE.is("stands first", x.stands(0, 50, 10, 0), 62);
        DUE.is("stands last", x.stands(0, 50, 10, 1), 100);
        DUE.is("stands many", x.stands(0, 50, 10, 2), 39);
        DUE.is("stands nowhere", x.stands(0, 100, 10, 0), -1);
        DUE.is("stands nowhere", x.stands(0, 100, 10, 1), -1);
        DUE.is("stands nowhere", x.stands(0, 100, 10, 2), 0);
        DUE.is("stands what", x.stands(0, 50, 10, 3), -2);
        DUE.is("stands kind", x.stands(1, 50, 10, 0), -2);
        DUE.is("stands yard", x.stands(0, 101, 10, 0), -2);
        DUE.is("stands speed", x.stands(0, 50, 16, 0), -2);
        DUE.is("posts first", x.posts(0, 0, 10, 0), 0);
        DUE.is("posts last", x.posts(0, 0, 10, 1), 58);
        DUE.is("posts many", x.posts(0, 0, 10, 2), 59);
        DUE.is("posts what", x.posts(0, 0, 10, 3), -2);
        DUE.is("posts speed", x.posts(0, 0, 0, 0), -2);
        DUE.is("posts platform", x.posts(0, 1, 10, 0), -2);
        DUE.is("posts kind", x.posts(-1, 0, 10, 0), -2);
        DUE.is("speeds", x.speeds(0, 0, 70), 14);
        DUE.is("speeds", x.speeds(0, 0, 71), 0);
        DUE.is("speeds at 65", x.speeds(0, 0, 65) & 126, 126);
        DUE.is("speeds yard", x.speeds(0, 0, 101), -2);
        DUE.is("wetter", x.wetter(0, 0, 58, 10), 0);
        DUE.is("wetter", x.wetter(0, 0, 50, 10), 33);
        DUE.is("wetter", x.wetter(0, 0, 59, 10), -1);
        x.rain(34);
        DUE.is("wetter whatever RAIN is", x.wetter(0, 0, 50, 10), 33);
        DUE.is("RAIN stays", x.count(7), 34);
        DUE.is("too wet", x.can(0, 0, 50, 10), 0);
        DUE.is("too wet", x.comes(0, 2), -30);
        x.rain(33);
        DUE.is("not too wet", x.can(0, 0, 50, 10), 1);
        SlipCoach high = Due.told("line long 60;platform at 0 to 20;kind long 30 roll 0 brakes 1 2 3;");
        DUE.is("posts of a short PLATFORM", high.posts(0, 0, 5, 0), -1);
        DUE.is("posts of a short PLATFORM", high.posts(0, 0, 5, 1), -1);
        DUE.is("posts of a short PLATFORM", high.posts(0, 0, 5, 2), 0);
        SlipCoach level = Due.told("line long 60;platform at 0 to 60;kind long 1 roll 1 brakes 1 2 3;");
        DUE.is("wetter 100", level.wetter(0, 0, 1, 1), 100);
    }

    private static void roomsAndRows() {
        SlipCoach x = Due.told(ONE);
        DUE.is("room", x.room(0, 0), 5);
        DUE.is("room too short", Due.told("line long 60;platform at 3 to 20;kind long 30 roll 0 brakes 1 2 3;").room(0, 0), -13);
        DUE.is("room kind", x.room(1, 0), NOTHING);
        DUE.is("room platform", x.room(0, 1), NOTHING);
        DUE.is("told nothing", x.told(0, 0, 50, 10), -6);
        DUE.is("judge nothing", x.judge(0, 0, 0, 50, 10), -6);
        DUE.is("told slot", x.told(4, 0, 50, 10), -2);
        DUE.is("told of none such, asked first", x.told(0, 1, 50, 10), -2);
        x.row(0, 0, 2);
        x.write(0, 0, 3);
        x.write(0, 1, 3);
        DUE.is("told", x.told(0, 0, 50, 10), 62);
        DUE.is("told", x.told(0, 0, 96, 10), -1);
        DUE.is("judge", x.judge(0, 0, 0, 50, 10), 2);
        DUE.is("judge", x.judge(0, 0, 0, 58, 10), 2);
        DUE.is("judge can't from the first", x.judge(0, 0, 0, 59, 10), 0);
        x.write(0, 1, 0);
        DUE.is("judge the second", x.judge(0, 0, 0, 58, 10), 1);
        DUE.is("judge of a stand elsewhere", x.judge(0, 0, 0, 20, 2), 0);
        DUE.is("judge of a stand there", x.judge(0, 0, 0, 66, 2), 2);
        x.write(0, 1, 4);
        DUE.is("told no STEP", x.told(0, 0, 50, 10), -2);
        DUE.is("told no STEP, though it STANDS ahead of it", x.told(0, 0, 50, 1), -2);
        DUE.is("judge no STEP", x.judge(0, 0, 0, 50, 10), -2);
        x.write(0, 1, 259);
        DUE.is("told of a number cut to its WIDTH", x.told(0, 0, 50, 10), 62);
        x.write(0, 1, -1);
        DUE.is("told no STEP below 0", x.told(0, 0, 50, 10), -2);
        x.row(1, 3, 0);
        DUE.is("told by an empty row", x.told(1, 0, 50, 10), 62);
        DUE.is("judge by an empty row", x.judge(1, 0, 0, 59, 10), 0);
        for (int[] a : WRONG_AIMS) {
            DUE.is("judge of none such", x.judge(1, a[0], a[1], a[2], a[3]), -2);
        }
        DUE.is("judge slot", x.judge(-1, 0, 0, 50, 10), -2);
    }

    private static void trains() {
        SlipCoach x = Due.told(THREE + "limit at 20 of 4;");
        DUE.is("pulls", x.pulls(0, 0, 3), 6);
        DUE.is("pulls", x.pulls(0, 0, 0), 12);
        DUE.is("pulls the LIMIT", x.pulls(0, 20, 3), 4);
        DUE.is("pulls 1 at least", x.pulls(0, 200, 16), 1);
        DUE.is("pulls coaches", x.pulls(0, 0, 17), -2);
        DUE.is("pulls coaches", x.pulls(0, 0, -1), -2);
        DUE.is("pulls yard", x.pulls(0, 201, 0), -2);
        DUE.is("pulls train", x.pulls(1, 0, 0), -2);
        SlipCoach one = Due.told(ONE);
        DUE.is("passes", one.passes(0, 100), 10);
        DUE.is("passes", one.passes(0, 95), 9);
        DUE.is("passes at START", one.passes(0, 5), 0);
        DUE.is("passes", one.passes(0, 6), 1);
        one.shift(0, 7);
        DUE.is("passes", one.passes(0, 6), 8);
        DUE.is("passes at START", one.passes(0, 0), 7);
        DUE.is("passes yard", one.passes(0, 101), -2);
        DUE.is("passes train", one.passes(1, 0), -2);
    }

    /** THREE: 30 behind TICK 3; 6 a TICK: 36 (4), 42 (5: COACH 2 at 22); 8: 50 (6); .. 98 (12), 106 (13: 1 at 96, 0 at 106). */
    private static void lettingGo() {
        SlipCoach x = Due.told(THREE);
        int[][] due = {{13, 106, 8}, {13, 96, 8}, {5, 22, 6}};
        for (int c = 0; c < 3; c++) {
            for (int what = 0; what < 3; what++) {
                DUE.is("lets " + c + " " + what, x.lets(c, what), due[c][what]);
            }
        }
        DUE.is("lets what", x.lets(0, 3), -2);
        DUE.is("lets coach", x.lets(3, 0), -2);
        DUE.is("COACH 0 is blocked", x.blocked(0), 1 - 1);
        // 106 and 96 at 8: COACH 0 is beyond its PLATFORM (50 to 80) and stops by STEP 3: 2 on to 108, 0.
        DUE.is("comes", x.comes(0, 0), 108);
        DUE.is("comes", x.comes(0, 1), 15);
        DUE.is("comes beyond", x.comes(0, 2), -28);
        DUE.is("clear never", x.clear(0), -1);
        DUE.is("comes into it", x.comes(1, 2), 0);
        DUE.is("comes into it", x.comes(1, 0), x.handled(0, 1, 96, 8, 2));
        DUE.is("comes into it", x.comes(1, 1), 13 + x.handled(0, 1, 96, 8, 1));
        DUE.is("clear", x.clear(1), x.comes(1, 1));
        DUE.is("comes into it", x.comes(2, 1), 5 + x.handled(0, 0, 22, 6, 1));
        DUE.is("good", x.good(), 2);
        DUE.is("comes what", x.comes(0, 3), -2);
        DUE.is("comes coach", x.comes(3, 0), -2);
        DUE.is("clear coach", x.clear(3), -2);
        // A COACH short of its PLATFORM: roll 3 stops it at once.
        SlipCoach brake = Due.told("line long 50;platform at 40 to 50;kind long 5 roll 3 brakes 1 1 1;"
                + "train starts 2 speed 3 loses 0;coach 0 for 0 at 0;");
        DUE.is("lets at once, but not at START", brake.lets(0, 0), 3);
        DUE.is("comes short", brake.comes(0, 0), 8);
        DUE.is("comes short", brake.comes(0, 1), 4);
        DUE.is("comes short", brake.comes(0, 2), 37);
        DUE.is("clear never", brake.clear(0), -1);
        DUE.is("good", brake.good(), 0);
        // Off the LINE: brakes that take nothing.
        SlipCoach off = Due.told("line long 50;platform at 40 to 50;kind long 5 roll 0 brakes 1 1 1;"
                + "wet at 0 to 50 by 1;train starts 0 speed 10 loses 0;coach 0 for 0 at 20;");
        DUE.is("lets", off.lets(0, 1), 25);
        DUE.is("comes off", off.comes(0, 0), -1);
        DUE.is("comes off", off.comes(0, 1), -1);
        DUE.is("comes off", off.comes(0, 2), NOTHING);
        DUE.is("clear off: 35, 45, 55", off.clear(0), 5);
        off.post(0, 50);
        DUE.is("lets at the end: 55", off.lets(0, 0), 5);
        DUE.is("lets at the end", off.lets(0, 1), 55);
        DUE.is("clear at once", off.clear(0), 5);
        // A TRAIN as long as the LINE is gone behind its START.
        SlipCoach whole = Due.told("line long 20;platform at 0 to 20;kind long 20 roll 0 brakes 1 1 1;"
                + "train starts 4 speed 1 loses 0;coach 0 for 0 at 0;");
        DUE.is("lets never", whole.lets(0, 0), -1);
        DUE.is("lets never", whole.lets(0, 1), -1);
        DUE.is("lets never", whole.lets(0, 2), -1);
        DUE.is("comes never", whole.comes(0, 0), -1);
        DUE.is("comes never", whole.comes(0, 2), NOTHING);
        DUE.is("clear never", whole.clear(0), -1);
        DUE.is("passes", whole.passes(0, 20), 4);
        DUE.is("saved", whole.saved(0, 9), 9);
    }

    /** ONE's COACH is at 55 behind TICK 5, and STANDS in its PLATFORM at 70 behind TICK 9. */
    private static void breaches() {
        SlipCoach x = Due.told(ONE + "train starts 5 speed 10 loses 0;");
        DUE.is("breach none", x.breach(0), -1);
        DUE.is("breach none", x.breach(1), -1);
        DUE.is("breach none", x.breach(2), -1);
        DUE.is("breach what", x.breach(3), -2);
        DUE.is("breach what", x.breach(-1), -2);
        x.shift(1, 2);
        // 60 behind TICK 8: the COACH is at 70 (63, 68, 70), its tail at 65.
        DUE.is("none: in it behind 9, 70 behind 9", x.breach(0), -1);
        x.shift(1, 1);
        DUE.is("breach: 70 behind TICK 8, the tail at 65", x.breach(0), 8);
        DUE.is("breach behind", x.breach(1), 1);
        DUE.is("breach of the COACH", x.breach(2), 0);
        x.shift(1, 0);
        DUE.is("breach at START: both at the beginning", x.breach(0), 0);
        DUE.is("breach at START", x.breach(1), 1);
        DUE.is("breach of a TRAIN", x.breach(2), 100);
        x.shift(0, 1);
        DUE.is("the earlier one is ahead, at 10 when the other is at 5", x.breach(0), -1);
        x.shift(0, 0);
        x.shift(1, 0);
        x.shift(0, 0);
        x.shift(1, 2);
        x.rain(34);
        DUE.is("a COACH beyond its PLATFORM is there for good", x.breach(2), 0);
        DUE.is("it STANDS on, and is reached", x.breach(0) > 8 ? 1 : 0, 1);
        // Its tail is at 92 behind TICK 12, and comes to 95; the TRAIN goes from 90 to 100, and is gone.
        DUE.is("start: never at 95 .. 99", x.start(1), 3);
        x.rain(0);
        DUE.is("start", x.start(1), 2);
        DUE.is("STARTS stay", x.shift(1, 5), 2);
        DUE.is("start train", x.start(2), -2);
        DUE.is("start train", x.start(-1), -2);
        SlipCoach good = Due.told(ONE + "train starts 5 speed 9 loses 0;wet at 0 to 100 by 34;");
        DUE.is("start none: it STANDS at 100 for good, 99 is reached", good.start(1), -1);
        DUE.is("but ahead of it", good.start(0) > 5 ? 1 : 0, 1);
        lateStarts();
        DUE.is("start alone", Due.told(ONE).start(0), 0);
    }

    /** TRAIN 0 is at the YARD of the TICK; TRAIN 1, from TICK s on by 15, must not come up to it below long. */
    private static void lateStarts() {
        for (int length = 300; length <= 330; length++) {
            SlipCoach x = Due.told("line long " + length + ";train starts 0 speed 1 loses 0;"
                    + "train starts 300 speed 15 loses 0;");
            int due = -1;
            for (int s = 300; s >= 1; s--) {
                boolean meets = false;
                for (int t = s; t < length && 15 * (t - s) < length; t++) {
                    meets |= 15 * (t - s) >= t;
                }
                due = meets ? due : s;
            }
            DUE.is("start on a LINE of " + length, x.start(1), due);
        }
    }

    private static void mistakes() {
        SlipCoach x = Due.told(ONE + "train starts 5 speed 9 loses 0;");
        DUE.is("earlier", x.mistake(0, 10), -1);
        DUE.is("later by 30: let go at 85, it is for good on the LINE", x.mistake(1, 30), 0);
        DUE.is("later by 5: 55, as before", x.mistake(1, 5), -1);
        DUE.is("weak brakes", x.mistake(2, 0), 0);
        DUE.is("weak", x.weak(30), 2);
        DUE.is("weak", x.weak(5), 1);
        DUE.is("mistake sort", x.mistake(3, 0), -2);
        DUE.is("mistake sort", x.mistake(-1, 0), -2);
        DUE.is("mistake yards", x.mistake(0, 100), -2);
        DUE.is("mistake yards", x.mistake(0, -1), -2);
        DUE.is("weak yards", x.weak(100), -2);
        DUE.is("weak yards", x.weak(-1), -2);
        DUE.is("POST stays", x.coach(0, 3), 50);
        DUE.is("no MISTAKE stays", x.breach(0), -1);
        DUE.is("no COACH errs", Due.told("line long 20;").mistake(0, 0), -1);
        DUE.is("no COACH errs", Due.told("line long 20;").weak(0), 0);
        SlipCoach two = Due.told("line long 50;train starts 0 speed 1 loses 0;train starts 0 speed 1 loses 0;");
        DUE.is("a BREACH without a MISTAKE", two.breach(2), 100);
        DUE.is("but no COACH", two.mistake(1, 3), -1);
        DUE.is("but no COACH", two.weak(3), 0);
    }

    private static void orders() {
        SlipCoach x = Due.told(THREE);
        DUE.is("shunts", x.shunts(0, 0), 1);
        DUE.is("shunts which: 0 out leaves 1, 2", x.shunts(0, 1), 1);
        DUE.is("shunts what", x.shunts(0, 2), -2);
        DUE.is("shunts train", x.shunts(1, 0), -2);
        DUE.is("order", x.order(0, 0), 1);
        DUE.is("order", x.order(0, 1), 0);
        DUE.is("order", x.order(0, 2), 2);
        DUE.is("order none", x.order(0, 3), -1);
        DUE.is("order none", x.order(0, -1), -1);
        DUE.is("order train", x.order(1, 0), -2);
        x.swap(0, 2);
        DUE.is("order as they stand", x.order(0, 1), 2);
        DUE.is("shunts: 1 out leaves 2, 0", x.shunts(0, 1), 2);
        x.swap(1, 2);
        DUE.is("in order", x.shunts(0, 0), 0);
        DUE.is("in order", x.shunts(0, 1), 0);
        SlipCoach many = Due.told("line long 99;platform at 10 to 20;platform at 30 to 40;kind long 1 roll 0 brakes 1 1 1;"
                + "train starts 0 speed 1 loses 0;coach 0 for 0 at 9;coach 0 for 1 at 9;coach 0 for 0 at 9;coach 0 for 1 at 9;");
        DUE.is("shunts two", many.shunts(0, 0), 2);
        DUE.is("shunts two: 0 and 2 out, not 0 and 3", many.shunts(0, 1), 5);
        DUE.is("none in a TRAIN", Due.told("line long 20;train starts 0 speed 1 loses 0;").shunts(0, 1), 0);
        DUE.is("none in a TRAIN", Due.told("line long 20;train starts 0 speed 1 loses 0;").blocked(0), -1);
        DUE.is("blocked, from the tail", Due.told(THREE).blocked(0), 0);
        x = Due.told(THREE);
        x.post(1, 39);
        DUE.is("blocked, the first from the tail", x.blocked(0), 1);
        x.post(0, 40);
        x.post(1, 40);
        DUE.is("blocked by none of like POSTS", x.blocked(0), -1);
        DUE.is("blocked train", x.blocked(-1), -2);
    }

    private static void postsOfCoaches() {
        SlipCoach x = Due.told(ONE);
        DUE.is("best: the first, all take 10", x.best(0), 0);
        DUE.is("margin", x.margin(0, 0), 0);
        DUE.is("margin: 55 is passed behind TICK 5", x.margin(0, 1), 55);
        DUE.is("margin what", x.margin(0, 2), -2);
        DUE.is("margin coach", x.margin(1, 0), -2);
        DUE.is("best coach", x.best(-1), -2);
        DUE.is("POST stays", x.coach(0, 3), 50);
        x.rain(100);
        DUE.is("best none", x.best(0), -1);
        DUE.is("margin none", x.margin(0, 0), -1);
        DUE.is("margin none", x.margin(0, 1), -1);
        DUE.is("saved", Due.told(ONE).saved(0, 20), 20);
        DUE.is("saved n", Due.told(ONE).saved(0, 100), NOTHING);
        DUE.is("saved n", Due.told(ONE).saved(0, -1), NOTHING);
        DUE.is("saved train", Due.told(ONE).saved(1, 0), NOTHING);
        // Where each COACH stops at once, it must be let go at the very end.
        SlipCoach up = Due.told("line long 20;slope at 0 up 9;platform at 19 to 20;kind long 1 roll 0 brakes 1 1 1;"
                + "train starts 0 speed 1 loses 0;coach 0 for 0 at 0;");
        DUE.is("best at the end", up.best(0), 20);
        DUE.is("margin at the end", up.margin(0, 0), 20);
        DUE.is("margin at the end", up.margin(0, 1), 20);
        // THREE gone: 106 behind 13, then 12 a TICK: 118 (14) .. 202 (21): 18 TICKS; all kept: 6 a TICK, 29.
        DUE.is("saved", Due.told(THREE).saved(0, 0), 11);
        DUE.is("saved at two PLATFORMS", Due.told(THREE).saved(0, 10), 31);
        // Rolling by 1: the farther it rolls out by itself, the fewer STEPS.
        SlipCoach roll = Due.told("line long 100;platform at 60 to 70;kind long 5 roll 1 brakes 1 2 3;"
                + "train starts 0 speed 10 loses 0;coach 0 for 0 at 50;");
        DUE.is("best by roll", roll.best(0), 16);
        DUE.is("best by roll: none is needed", roll.handled(0, 0, 25, 10, 0), 0);
    }

    /** Seed 1 draws 16838, 5758: 38, 58, sort 1. Seed 0 draws 0, 21468: 0, 68, sort 2. */
    private static void days() {
        SlipCoach x = Due.told(ONE + "train starts 5 speed 9 loses 0;");
        DUE.is("days later by 30", x.days(1, 1, 39, 30), 1);
        DUE.is("days of odds 38: 38 is not below", x.days(1, 1, 38, 30), 0);
        DUE.is("days later by 5", x.days(1, 1, 100, 5), 0);
        DUE.is("days of weak brakes", x.days(0, 1, 1, 0), 1);
        DUE.is("days of odds 0", x.days(0, 1, 0, 30), 0);
        DUE.is("two days", x.days(0, 2, 39, 30), 2);
        DUE.is("two days", x.days(0, 2, 38, 30), 1);
        DUE.is("day later by 30", x.day(1, 39, 30), 0);
        DUE.is("day of none", x.day(1, 38, 30), 1);
        DUE.is("day later by 5", x.day(1, 39, 5), 1);
        DUE.is("day of weak brakes", x.day(0, 1, 0), 0);
        int sum = 0;
        for (int i = 0; i < 20; i++) {
            sum += x.days(5 + i, 1, 60, 40);
        }
        DUE.is("days of 20 seeds", x.days(5, 20, 60, 40), sum);
        DUE.is("the greatest seed", x.days(2000000000, 20, 0, 0), 0);
        int[][] wrong = {{-1, 1, 0, 0}, {2000000001, 1, 0, 0}, {0, 0, 0, 0}, {0, 21, 0, 0}, {0, 1, -1, 0}, {0, 1, 101, 0},
            {0, 1, 0, -1}, {0, 1, 0, 100}};
        for (int[] a : wrong) {
            DUE.is("days of none such", x.days(a[0], a[1], a[2], a[3]), -2);
            if (a[1] == 1) {
                DUE.is("day of none such", x.day(a[0], a[2], a[3]), -2);
            }
        }
        DUE.is("no MISTAKE stays", x.good(), 1);
        DUE.is("no MISTAKE stays", x.breach(0), -1);
    }

    private static void countsAndImages() {
        SlipCoach x = Due.told(THREE);
        int[] due = {200, 1, 2, 1, 3, 1, 0, 0, 0};
        for (int what = 0; what < due.length; what++) {
            DUE.is("count " + what, x.count(what), due[what]);
        }
        DUE.is("count", x.count(9), -1);
        DUE.is("count", x.count(-1), -1);
        DUE.is("keep", x.keep(0), 0);
        DUE.is("keep", x.keep(3), -2);
        DUE.is("keep", x.keep(-1), -2);
        x.rain(40);
        x.post(0, 9);
        x.shift(0, 99);
        x.swap(0, 1);
        x.row(2, 0, 3);
        DUE.is("keep", x.keep(2), 0);
        int sum = x.handled(0, 0, 22, 6, 0);
        Due.tape(x, "line\nlong 33;");
        x.line();
        DUE.is("back", x.back(1), -6);
        DUE.is("back", x.back(3), -2);
        DUE.is("back", x.back(-1), -2);
        DUE.is("nothing happens", x.count(0), 33);
        DUE.is("lines", x.count(5), 2);
        DUE.is("back", x.back(2), 0);
        DUE.is("RAIN", x.count(7), 40);
        DUE.is("POST", x.coach(0, 3), 9);
        DUE.is("row", x.coach(0, 4), 1);
        DUE.is("START", x.shift(0, 0), 99);
        DUE.is("SLOTS are not the LINE's", x.count(8), 1);
        DUE.is("HANDLING as it was", x.handled(0, 0, 22, 6, 0), sum);
        DUE.is("back", x.back(0), 0);
        DUE.is("RAIN", x.count(7), 0);
        DUE.is("POST", x.coach(0, 3), 30);
        DUE.is("row", x.coach(0, 4), 0);
        DUE.is("START", x.shift(0, 1), 3);
        DUE.is("lines", x.count(5), 1);
        DUE.is("back once more", x.back(0), 0);
        DUE.is("the IMAGE has not changed", x.shift(0, 1), 3);
        DUE.is("HANDLING of no RAIN", x.handled(0, 0, 22, 6, 0), Due.told(THREE).handled(0, 0, 22, 6, 0));
        SlipCoach none = new SlipCoach();
        none.keep(1);
        Due.tape(none, "line long 33;");
        none.line();
        DUE.is("back to no LINE", none.back(1), 0);
        DUE.is("back to no LINE", none.good(), -1);
    }

    private static void slots() {
        SlipCoach x = Due.told("line long 400;kind long 1 roll 0 brakes 1 2 3;");
        DUE.is("row", x.row(4, 0, 1), -2);
        DUE.is("row", x.row(-1, 0, 1), -2);
        DUE.is("row", x.row(0, 4, 1), -2);
        DUE.is("row", x.row(0, -1, 1), -2);
        DUE.is("row", x.row(0, 0, 61), -2);
        DUE.is("row", x.row(0, 0, -1), -3);
        DUE.is("row: -2 first", x.row(4, 0, -1), -2);
        DUE.is("none", x.count(8), 0);
        DUE.is("write", x.write(0, 0, 1), -6);
        DUE.is("write", x.write(4, 0, 1), -2);
        DUE.is("row", x.row(0, 0, 60), 0);
        DUE.is("write", x.write(0, 60, 1), -7);
        DUE.is("write", x.write(0, -1, 1), -7);
        DUE.is("write", x.write(0, 59, 1), 0);
        // 60 TICKS at 6 from 0 and STEP 1 in the last: 59 * 6 + 5, then STEP 3: 2, 0.
        DUE.is("told", x.told(0, 0, 0, 6), 361);
        DUE.is("row in place of it", x.row(0, 1, 3), 0);
        DUE.is("all 0", x.told(0, 0, 0, 3), 9);
        DUE.is("row below 0, and it stays", x.row(0, 0, -1), -3);
        DUE.is("it stays", x.told(0, 0, 0, 3), 9);
        DUE.is("count", x.count(8), 1);
        cuts();
        pastes();
    }

    private static void cuts() {
        SlipCoach x = Due.told("line long 400;kind long 1 roll 0 brakes 1 2 3;");
        long[] above = {1L << 8, 1L << 16, 1L << 32};
        for (int width = 0; width < 4; width++) {
            x.row(0, width, 1);
            for (int i = 0; i < above.length; i++) {
                x.write(0, 0, above[i] + 1);
                DUE.is("cut to WIDTH " + width, x.told(0, 0, 0, 2), i >= width ? 1 : -2);
            }
        }
    }

    /** What a row holds is seen by where a KIND STANDS by it. */
    private static void pastes() {
        SlipCoach x = Due.told("line long 400;kind long 1 roll 0 brakes 1 2 3;");
        x.row(0, 3, 3);
        x.row(1, 1, 3);
        DUE.is("paste", x.paste(0, 0, 1, 0, 1), -8);
        DUE.is("paste", x.paste(0, 0, 2, 0, 1), -6);
        DUE.is("paste", x.paste(2, 0, 0, 0, 1), -6);
        DUE.is("paste", x.paste(0, 0, 4, 0, 1), -2);
        DUE.is("paste", x.paste(-1, 0, 2, 0, 1), -2);
        DUE.is("paste", x.paste(0, 1, 0, 0, 3), -7);
        DUE.is("paste", x.paste(0, 0, 0, 1, 3), -7);
        DUE.is("paste", x.paste(0, -1, 0, 0, 1), -7);
        DUE.is("paste", x.paste(0, 0, 0, -1, 1), -7);
        DUE.is("paste", x.paste(0, 0, 0, 0, -1), -7);
        DUE.is("paste", x.paste(0, 2147483647, 0, 0, 2147483647), -7);
        DUE.is("paste", x.paste(0, 3, 0, 3, 0), 0);
        x.write(0, 0, 1);
        x.write(0, 1, 2);
        DUE.is("1 2 0: 14, 26, 38, then 9, 6, 3", x.told(0, 0, 0, 15), 14 + 12 + 12 + 9 + 6 + 3);
        DUE.is("paste", x.paste(0, 0, 0, 1, 2), 0);
        DUE.is("1 1 2, as they were", x.told(0, 0, 0, 15), 14 + 13 + 11 + 8 + 5 + 2);
        x.row(3, 3, 5);
        DUE.is("paste", x.paste(0, 2, 3, 4, 1), 0);
        DUE.is("0 0 0 0 2", x.told(3, 0, 0, 15), 60 + 13 + 10 + 7 + 4 + 1);
        DUE.is("paste", x.paste(0, 1, 3, 3, 2), 0);
        DUE.is("0 0 0 1 2", x.told(3, 0, 0, 15), 45 + 14 + 12 + 9 + 6 + 3);
    }
}
