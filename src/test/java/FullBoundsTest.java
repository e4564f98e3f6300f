/** A LINE with the most of each sort, LINES one behind another, and calls that are the first behind one. */
public final class FullBoundsTest {
    private static final int NOTHING = -1000000;
    private static final String STEEP = "line long 50;slope at 0 up 9;kind long 5 roll 3 brakes 1 2 3;";
    private static final String SLOW = "train starts 0 speed 1 loses 0;";
    private static final String OLD = "line long 90;slope at 0 up 9;wet at 0 to 90 by 77;limit at 0 of 3;platform at 0 to 90;"
            + "kind long 1 roll 3 brakes 9 9 9;train starts 7 speed 2 loses 1;coach 0 for 0 at 33;\n\n\n\n";
    private static final Due DUE = new Due();

    public static void main(String[] args) {
        lastOfEachSort();
        lastCoach();
        thirdLine();
        lineBehindFault();
        handlingsOfAnotherLine();
        imagesOfOtherLines();
        standsOfAnotherLine();
        firstCalls();
        oneMistakeAtATime();
        laterTrainOfLesserNumber();
        frontAtStart();
        coachOnItsWay();
        startsOfAMiddleTrain();
        bestIsNotTheFirst();
        weakBrakesByStep();
        ordersByOneYard();
        beyondTheLongest();
        DUE.close("FullBoundsTest");
    }

    /** 8 slopes, 6 wets, 6 limits, 6 PLATFORMS, 4 KINDS, 5 TRAINS, 16 COACHES; the last one of each is asked for. */
    private static String full() {
        StringBuilder text = new StringBuilder("line long 400;");
        for (int i = 0; i < 8; i++) {
            text.append("slope at ").append(20 * i).append(i % 2 == 0 ? " up " : " down ").append(i == 7 ? 0 : 1).append(';');
        }
        for (int i = 0; i < 6; i++) {
            text.append("wet at ").append(10 * i).append(" to ").append(10 * i + 5).append(" by ").append(i + 1).append(';');
            text.append("limit at ").append(10 * i).append(" of ").append(15 - i).append(';');
            text.append("platform at ").append(50 * i).append(" to ").append(50 * i + 45).append(';');
        }
        for (int i = 0; i < 4; i++) {
            text.append("kind long ").append(i + 1).append(" roll 0 brakes ").append(i + 1).append(" 8 9;");
        }
        for (int i = 0; i < 5; i++) {
            text.append("train starts ").append(75 * i).append(" speed ").append(5 + i).append(" loses 0;");
            for (int c = 0; c < (i == 4 ? 4 : 3); c++) {
                text.append("coach 3 for 5 at ").append(230).append(';');
            }
        }
        return text.toString();
    }

    private static void lastOfEachSort() {
        SlipCoach x = Due.told(full());
        int[] due = {400, 4, 6, 5, 16, 1, 0, 0, 0};
        for (int what = 0; what < due.length; what++) {
            DUE.is("count " + what, x.count(what), due[what]);
        }
        DUE.is("the 8th slope", x.yard(140, 0), 10);
        DUE.is("the 7th slope", x.yard(139, 0), 11);
        DUE.is("the 6th wet", x.yard(55, 1), 6);
        DUE.is("behind it", x.yard(56, 1), 0);
        DUE.is("the 6th limit", x.yard(50, 2), 10);
        DUE.is("the 5th limit", x.yard(49, 2), 11);
        DUE.is("room of the last KIND and PLATFORM", x.room(3, 5), 41);
        DUE.is("the last KIND's brake", x.tick(3, 200, 15, 1, 1), 11);
        DUE.is("no KIND more", x.tick(4, 200, 15, 1, 1), -2);
        DUE.is("no PLATFORM more", x.can(3, 6, 200, 15), -2);
        // From 290 by 4: STEP 1 at once, or at 294 (the PLATFORM is from 250 to 295).
        DUE.is("can", x.can(3, 5, 290, 4), 1);
        DUE.is("step", x.step(3, 5, 290, 4), 0);
        DUE.is("handled", x.handled(3, 5, 290, 4, 2), 294);
        DUE.is("handled", x.handled(3, 5, 290, 4, 1), 2);
        DUE.is("quick", x.quick(3, 5, 290, 4), 1);
        DUE.is("hard", x.hard(3, 5, 290, 4), 1);
        DUE.is("jolt", x.jolt(3, 5, 290, 4), 4);
        DUE.is("posts", x.posts(3, 5, 4, 1), 295);
        DUE.is("speeds", x.speeds(3, 5, 295), 1022);
        DUE.is("wetter", x.wetter(3, 5, 295, 9), 0);
        DUE.is("pulls of the last TRAIN", x.pulls(4, 0, 0), 9);
        DUE.is("START of the last TRAIN", x.passes(4, 0), 300);
        DUE.is("no TRAIN more", x.pulls(5, 0, 0), -2);
        // By 75 TICKS each TRAIN but the first has gone when the next one STARTS; all COACHES are in.
        DUE.is("good", x.good(), Integer.bitCount(x.day(0, 0, 0)));
        for (int a = 0; a < 24; a++) {
            int kind = a / 6;
            int platform = a % 6;
            DUE.is("KIND " + kind + " to PLATFORM " + platform, x.handled(kind, platform, 50 * platform + 45, 1, 2),
                    50 * platform + 45);
        }
    }

    /** COACH 15 is let go, comes to stand and errs as others do. */
    private static void lastCoach() {
        SlipCoach x = Due.told("line long 50;slope at 0 up 9;kind long 1 roll 3 brakes 1 2 3;platform at 0 to 40;" + SLOW
                + "coach 0 for 0 at 50;".repeat(15) + "coach 0 for 0 at 30;");
        int[] lets = {14, 15, 1};
        for (int what = 0; what < 3; what++) {
            DUE.is("lets(15, " + what + ")", x.lets(15, what), lets[what]);
        }
        DUE.is("comes(15, 0)", x.comes(15, 0), 15);
        DUE.is("comes(15, 1)", x.comes(15, 1), 15);
        DUE.is("clear(15)", x.clear(15), 15);
        DUE.is("coach(15, 4)", x.coach(15, 4), 15);
        DUE.is("coach(16, 4)", x.coach(16, 4), -2);
        DUE.is("best(15)", x.best(15), 0);
        DUE.is("margin(15)", x.margin(15, 1), 50);
        DUE.is("order(0, 15)", x.order(0, 15), 15);
        DUE.is("order(0, 16)", x.order(0, 16), -1);
        DUE.is("blocked: none, it is the earliest", x.blocked(0), -1);
        DUE.is("swap(0, 15)", x.swap(0, 15), 0);
        DUE.is("COACH 0 is the last then", x.coach(0, 4), 15);
        DUE.is("blocked: the engine's is ahead", x.blocked(0), 15);
        // One more TRAIN: COACH 15 earlier or later by 20 is let go at 10 or 50, out of a PLATFORM of its own.
        SlipCoach y = Due.told("line long 50;slope at 0 up 9;kind long 1 roll 3 brakes 1 2 3;platform at 0 to 50;"
                + "platform at 14 to 16;" + SLOW + "coach 0 for 0 at 50;".repeat(15) + "coach 0 for 1 at 30;"
                + "train starts 30 speed 1 loses 0;");
        DUE.is("none without a MISTAKE", y.breach(0), -1);
        DUE.is("COACH 15 alone leads to a BREACH, earlier", y.mistake(0, 10), 15);
        DUE.is("COACH 15 alone leads to a BREACH, later", y.mistake(1, 10), 15);
    }

    private static void isNew(String name, SlipCoach x, int length, int lines) {
        int[] due = {length, 0, 0, 0, 0, lines, 0, 0, 0};
        for (int what = 0; what < due.length; what++) {
            DUE.is(name + ": count " + what, x.count(what), due[what]);
        }
        int[] yard = {10, 0, 15};
        for (int what = 0; what < 3; what++) {
            DUE.is(name + ": yard 0, " + what, x.yard(0, what), yard[what]);
            DUE.is(name + ": the last yard, " + what, x.yard(length, what), yard[what]);
            DUE.is(name + ": a yard more, " + what, x.yard(length + 1, what), -2);
        }
    }

    private static int tell(SlipCoach x, String text) {
        Due.tape(x, text);
        return x.line();
    }

    /** In place of another: nothing of the one ahead, nor of the one ahead of that. */
    private static void thirdLine() {
        SlipCoach x = Due.told(OLD);
        tell(x, "line long 20;");
        isNew("second", x, 20, 1);
        tell(x, "line\nlong 30;");
        isNew("third", x, 30, 2);
        tell(x, OLD);
        tell(x, OLD);
        tell(x, "line long 400;");
        isNew("sixth", x, 400, 1);
        DUE.is("no LINE", tell(x, ""), 0);
        DUE.is("no LINE", x.count(0), 0);
        DUE.is("no LINE", x.good(), -1);
        tell(x, OLD);
        DUE.is("no LINE", tell(x, ""), 0);
        for (int what = 0; what <= 8; what++) {
            DUE.is("no LINE: count " + what, x.count(what), 0);
        }
    }

    /** What was read ahead of a FAULT is no part of the next LINE. */
    private static void lineBehindFault() {
        SlipCoach x = new SlipCoach();
        DUE.is("a FAULT at the end", tell(x, OLD + "slope"), -4);
        DUE.is("no LINE yet", x.count(0), 0);
        DUE.is("no TRAIN yet", x.count(3), 0);
        tell(x, "line long 25;");
        isNew("behind a FAULT", x, 25, 1);
        tell(x, OLD + "slope");
        isNew("behind another FAULT", withoutTape(x), 25, 1);
        // As many as may be, though a FAULT had some of them ahead.
        String most = "line long 20;" + "slope at 0 up 1;".repeat(8);
        DUE.is("9 slopes", tell(x, most + "slope at 0 up 1;"), -4);
        DUE.is("8 slopes", tell(x, most), 1);
        DUE.is("8 slopes", tell(x, most), 1);
        DUE.is("coach without a TRAIN", tell(x, "line long 20;coach"), -4);
    }

    private static SlipCoach withoutTape(SlipCoach x) {
        x.end(0);
        return x;
    }

    /** What was found out of one LINE, or by one RAIN, does not hold for another. */
    private static void handlingsOfAnotherLine() {
        String near = "line long 50;platform at 20 to 30;kind long 5 roll 0 brakes 1 2 3;";
        String far = "line long 50;platform at 35 to 45;kind long 5 roll 0 brakes 1 2 3;";
        SlipCoach x = Due.told(near);
        DUE.is("near", x.can(0, 0, 30, 3), 1);
        DUE.is("near", x.can(0, 0, 45, 3), 0);
        x.keep(0);
        tell(x, far);
        DUE.is("far", x.can(0, 0, 30, 3), 1);
        DUE.is("far", x.can(0, 0, 45, 3), 1);
        DUE.is("far", x.handled(0, 0, 30, 3, 2), 45);
        x.back(0);
        DUE.is("near once more", x.can(0, 0, 45, 3), 0);
        DUE.is("near once more", x.handled(0, 0, 30, 3, 2), 30);
        x.rain(50);
        DUE.is("in RAIN", x.can(0, 0, 30, 3), 0);
        DUE.is("in RAIN", x.can(0, 0, 30, 1), 1);
        x.keep(1);
        x.rain(0);
        DUE.is("no RAIN", x.can(0, 0, 30, 3), 1);
        x.back(1);
        DUE.is("the IMAGE's RAIN", x.can(0, 0, 30, 3), 0);
        x.back(0);
        DUE.is("the other IMAGE's RAIN", x.can(0, 0, 30, 3), 1);
    }

    private static void imagesOfOtherLines() {
        SlipCoach x = Due.told(OLD);
        x.keep(0);
        tell(x, "line long 20;");
        x.keep(1);
        for (int times = 0; times < 2; times++) {
            x.back(0);
            int[] due = {90, 1, 1, 1, 1, 4, 0, 0, 0};
            for (int what = 0; what < due.length; what++) {
                DUE.is("the first LINE: count " + what, x.count(what), due[what]);
            }
            int[] yard = {19, 77, 3};
            for (int what = 0; what < 3; what++) {
                DUE.is("the first LINE: yard " + what, x.yard(90, what), yard[what]);
            }
            DUE.is("the first LINE: KIND", x.tick(0, 0, 15, 0, 1), 3);
            DUE.is("the first LINE: room", x.room(0, 0), 89);
            DUE.is("the first LINE: TRAIN", x.passes(0, 0), 7);
            DUE.is("the first LINE: TRAIN", x.pulls(0, 0, 0), 2);
            DUE.is("the first LINE: COACH", x.coach(0, 3), 33);
            x.back(1);
            isNew("the second LINE", x, 20, 1);
        }
        x.back(0);
        x.keep(2);
        tell(x, "line long 33;slope at 0 down 9;wet at 0 to 33 by 1;limit at 0 of 9;");
        x.back(2);
        DUE.is("slopes of the IMAGE", x.yard(0, 0), 19);
        DUE.is("wets of the IMAGE", x.yard(0, 1), 77);
        DUE.is("limits of the IMAGE", x.yard(0, 2), 3);
    }

    /** A COACH that stood on one LINE, and is never LET GO on the next. */
    private static void standsOfAnotherLine() {
        SlipCoach x = Due.told(STEEP + "platform at 20 to 30;" + SLOW + "coach 0 for 0 at 25;");
        DUE.is("it STANDS", x.good(), 1);
        DUE.is("it STANDS", x.comes(0, 0), 25);
        tell(x, "line long 20;platform at 0 to 20;kind long 20 roll 0 brakes 1 2 3;" + SLOW + "coach 0 for 0 at 0;"
                + "train starts 1 speed 1 loses 0;");
        DUE.is("it is never LET GO", x.good(), 0);
        DUE.is("it is never LET GO", x.day(0, 0, 0), 0);
        for (int what = 0; what < 3; what++) {
            DUE.is("it is never LET GO", x.comes(0, what), what == 2 ? NOTHING : -1);
            DUE.is("it is never LET GO", x.lets(0, what), -1);
            DUE.is("it is never LET GO", x.breach(what), -1);
        }
        DUE.is("it is never LET GO", x.clear(0), -1);
    }

    /** Each of these as the first call behind line(); COACH 0 STANDS in its PLATFORM by a STEP of 1, not by 3. */
    private static void firstCalls() {
        String text = "line long 100;platform at 60 to 70;kind long 5 roll 0 brakes 1 2 9;"
                + "train starts 0 speed 10 loses 0;coach 0 for 0 at 50;train starts 5 speed 9 loses 0;";
        DUE.is("good", Due.told(text).good(), 1);
        DUE.is("comes", Due.told(text).comes(0, 2), 0);
        DUE.is("clear", Due.told(text).clear(0), Due.told(text).comes(0, 1));
        DUE.is("breach", Due.told(text).breach(0), -1);
        DUE.is("mistake", Due.told(text).mistake(0, 0), -1);
        DUE.is("mistake", Due.told(text).mistake(1, 5), -1);
        DUE.is("weak", Due.told(text).weak(0), weakOf(text));
        DUE.is("start", Due.told(text).start(1), startOf(text));
        DUE.is("days", Due.told(text).days(0, 20, 0, 0), 0);
        DUE.is("day", Due.told(text).day(0, 0, 0), 1);
        DUE.is("best", Due.told(text).best(0), 0);
        DUE.is("margin", Due.told(text).margin(0, 0), 0);
        DUE.is("posts", Due.told(text).posts(0, 0, 1, 2), 71);
        DUE.is("speeds", Due.told(text).speeds(0, 0, 70), 1022);
        DUE.is("judge", judgeFirst(text), 1);
    }

    /** With weak brakes it takes by 0 what 1 should, by 2 what 3 should: asked of one by one. */
    private static int weakOf(String text) {
        SlipCoach x = Due.told(text);
        x.good();
        return (x.mistake(0, 0) < 0 ? 0 : 1) + (x.mistake(1, 0) < 0 ? 0 : 1) + (x.mistake(2, 0) < 0 ? 0 : 1);
    }

    private static int startOf(String text) {
        SlipCoach x = Due.told(text);
        int tick = 0;
        x.shift(1, tick);
        while (tick < 300 && x.breach(0) >= 0) {
            tick++;
            x.shift(1, tick);
        }
        return tick;
    }

    private static int judgeFirst(String text) {
        SlipCoach x = Due.told(text);
        x.row(0, 0, 1);
        return x.judge(0, 0, 0, 20, 10);
    }

    /** Of single MISTAKES none is left when the next one is tried, also of a COACH of another TRAIN. */
    private static void oneMistakeAtATime() {
        String later = "train starts 100 speed 1 loses 0;";
        SlipCoach x = Due.told(STEEP + "platform at 20 to 30;platform at 0 to 50;" + SLOW + "coach 0 for 0 at 28;"
                + later + "coach 0 for 1 at 25;" + "train starts 200 speed 1 loses 0;coach 0 for 1 at 25;");
        DUE.is("none without a MISTAKE", x.breach(0), -1);
        DUE.is("the first COACH alone", x.mistake(1, 9), 0);
        DUE.is("it alone", x.weak(9), 2);
        DUE.is("none of them", x.weak(2), 0);
        SlipCoach y = Due.told(STEEP + "platform at 20 to 30;platform at 0 to 50;" + SLOW + "coach 0 for 1 at 25;"
                + later + "coach 0 for 0 at 28;" + "train starts 200 speed 1 loses 0;coach 0 for 1 at 25;");
        DUE.is("the second COACH alone", y.mistake(1, 9), 1);
        DUE.is("it alone", y.weak(9), 2);
        // The brakes of COACH 0 are the last of its MISTAKES; COACH 1 rolls out by no STEP.
        SlipCoach z = Due.told("line long 100;platform at 60 to 70;platform at 0 to 100;kind long 5 roll 0 brakes 1 2 3;"
                + "kind long 1 roll 3 brakes 1 1 1;train starts 0 speed 10 loses 0;coach 0 for 0 at 50;"
                + "train starts 5 speed 9 loses 0;coach 1 for 1 at 20;");
        DUE.is("weak brakes of COACH 0 alone", z.mistake(2, 0), 0);
        DUE.is("nothing else", z.mistake(0, 0), -1);
        DUE.is("nothing else", z.mistake(1, 0), -1);
        DUE.is("they alone", z.weak(0), 1);
        DUE.is("none of them stays", z.breach(0), -1);
    }

    /** TRAIN 0 may be the one that comes behind, and the last one on the LINE. */
    private static void laterTrainOfLesserNumber() {
        SlipCoach x = Due.told("line long 50;train starts 300 speed 15 loses 0;train starts 299 speed 1 loses 0;");
        int[] due = {301, 0, 101};
        for (int what = 0; what < 3; what++) {
            DUE.is("breach " + what, x.breach(what), due[what]);
        }
        SlipCoach y = Due.told(STEEP + "platform at 0 to 5;train starts 300 speed 1 loses 0;train starts 0 speed 1 loses 0;"
                + "coach 0 for 0 at 25;");
        // It STANDS at 25, its tail at 20.
        int[] coach = {320, 0, 0};
        for (int what = 0; what < 3; what++) {
            DUE.is("breach of a COACH " + what, y.breach(what), coach[what]);
        }
        DUE.is("start at 0 with it: its front is beyond the other's tail", y.start(0), -1);
        DUE.is("start, by none", y.start(1), -1);
    }

    /** A long TRAIN has its front beyond what is ahead of it when it STARTS. */
    private static void frontAtStart() {
        SlipCoach x = Due.told("line long 50;platform at 0 to 5;kind long 5 roll 0 brakes 1 2 3;" + SLOW
                + "train starts 5 speed 1 loses 0;coach 0 for 0 at 50;");
        int[] due = {5, 1, 100};
        for (int what = 0; what < 3; what++) {
            DUE.is("breach " + what, x.breach(what), due[what]);
        }
        x.shift(1, 6);
        DUE.is("a YARD short of it", x.breach(0), -1);
        DUE.is("start", x.start(1), 6);
    }

    /** A COACH is where it was LET GO behind that TICK, and goes on in the next one. */
    private static void coachOnItsWay() {
        SlipCoach x = Due.told("line long 100;platform at 90 to 100;kind long 5 roll 0 brakes 1 2 3;"
                + "train starts 0 speed 10 loses 0;coach 0 for 0 at 20;train starts 0 speed 10 loses 0;");
        // 5, 15, 25: LET GO behind 2, its tail at 20; 35 behind 3, its tail at 30.
        DUE.is("lets", x.lets(0, 0), 2);
        DUE.is("lets", x.lets(0, 1), 25);
        SlipCoach fast = Due.told("line long 100;platform at 90 to 100;kind long 5 roll 0 brakes 1 2 3;"
                + "train starts 0 speed 10 loses 0;coach 0 for 0 at 20;train starts 1 speed 15 loses 0;");
        // 15 behind 2, 30 behind 3: just at its tail.
        DUE.is("at its tail", fast.breach(0), 3);
        DUE.is("at its tail", fast.breach(2), 0);
        SlipCoach start = Due.told("line long 100;platform at 90 to 100;kind long 5 roll 0 brakes 1 2 3;"
                + "kind long 20 roll 0 brakes 1 2 3;train starts 0 speed 10 loses 0;coach 0 for 0 at 20;"
                + "train starts 2 speed 1 loses 0;coach 1 for 0 at 100;");
        // It STARTS at 20 behind 2, just at the tail of what was LET GO there.
        DUE.is("at its tail where it was LET GO", start.breach(0), 2);
        DUE.is("at its tail where it was LET GO", start.breach(2), 0);
        start.shift(1, 3);
        DUE.is("it is gone on then", start.breach(0), -1);
    }

    /** A TRAIN between two others may neither reach the first nor be reached by the last. */
    private static void startsOfAMiddleTrain() {
        SlipCoach x = Due.told("line long 50;train starts 10 speed 5 loses 0;train starts 20 speed 5 loses 0;"
                + "train starts 30 speed 5 loses 0;");
        for (int train = 0; train < 3; train++) {
            DUE.is("start of " + train, x.start(train), 0);
        }
        x.shift(0, 0);
        DUE.is("not at one TICK with the first", x.start(1), 1);
        DUE.is("not at one TICK with the first", x.start(2), 1);
        x.shift(1, 1);
        DUE.is("not at one TICK with either", x.start(2), 2);
        SlipCoach fast = Due.told("line long 50;" + SLOW + "train starts 300 speed 1 loses 0;train starts 60 speed 15 loses 0;");
        // TRAIN 2 is at 0, 15, 30, 45 behind 60 .. 63. TRAIN 1 is on the LINE for 50 TICKS, and ahead of it until 60.
        DUE.is("from 1 to 13 it is gone ahead of 63, or far enough", fast.start(1), 1);
        fast.shift(0, 10);
        fast.shift(1, 10);
        DUE.is("others have a BREACH", fast.start(2), -1);
        DUE.is("one of them may be shifted", fast.start(1), 0);
        SlipCoach reached = Due.told("line long 50;train starts 0 speed 1 loses 0;train starts 1 speed 1 loses 0;"
                + "train starts 4 speed 15 loses 0;");
        // TRAIN 2 reaches both, so it is no matter when TRAIN 1 STARTS.
        DUE.is("TRAIN 2 reaches TRAIN 0", reached.start(1), -1);
        reached.shift(0, 300);
        // TRAIN 2 is gone behind 8; TRAIN 1 STARTS at 0 and is at 4 .. 8 until then, or at 5 and is behind it.
        DUE.is("TRAIN 2 reaches TRAIN 1 that STARTS ahead of it", reached.start(1), 5);
    }

    /** Rolling by 1 the farther POST needs the fewer STEPS; of like ones the first. */
    private static void bestIsNotTheFirst() {
        SlipCoach x = Due.told("line long 100;platform at 50 to 60;kind long 5 roll 1 brakes 2 4 6;"
                + "train starts 0 speed 5 loses 0;coach 0 for 0 at 50;");
        // By 5 it rolls out over 10 YARDS: from 45 it needs no STEP and comes to 55.
        int due = -1;
        int least = 99;
        for (int front = 10; front <= 100; front += 5) {
            int sum = x.handled(0, 0, front, 5, 0);
            if (sum >= 0 && sum < least) {
                least = sum;
                due = front == 10 ? 0 : front - 4;
            }
        }
        DUE.is("no STEP", least, 0);
        DUE.is("best", x.best(0), due);
        DUE.is("best is from 45 on", due, 41);
        // Where each POST needs some: the fewest.
        SlipCoach down = Due.told("line long 100;slope at 0 down 1;platform at 50 to 90;kind long 5 roll 0 brakes 1 2 4;"
                + "train starts 0 speed 5 loses 0;coach 0 for 0 at 50;");
        int first = -1;
        least = 99;
        for (int front = 10; front <= 100; front += 5) {
            int sum = down.handled(0, 0, front, 5, 0);
            if (sum >= 0 && sum < least) {
                least = sum;
                first = front == 10 ? 0 : front - 4;
            }
        }
        DUE.is("best of some STEPS", down.best(0), first);
        DUE.is("the first by which it STANDS is no better", down.margin(0, 0) <= first ? 1 : 0, 1);
    }

    /** Seed 0 draws 0, then sort 2: weak brakes at odds 1. */
    private static void weakBrakesByStep() {
        // By STEP 0 alone: it rolls out from 45 to 55, weak or not.
        SlipCoach roll = Due.told("line long 100;platform at 50 to 55;kind long 5 roll 1 brakes 9 9 9;"
                + "train starts 0 speed 5 loses 0;coach 0 for 0 at 41;");
        DUE.is("rolling out", roll.handled(0, 0, 45, 5, 0), 0);
        DUE.is("rolling out", roll.day(0, 0, 0), 1);
        DUE.is("a weak STEP 0 is STEP 0", roll.day(0, 1, 0), 1);
        // By STEP 1 at 100, which should take 5: the weak one takes nothing, and it runs off.
        SlipCoach one = Due.told("line long 100;platform at 95 to 100;kind long 5 roll 0 brakes 5 1 1;"
                + "train starts 0 speed 5 loses 0;coach 0 for 0 at 100;");
        DUE.is("by STEP 1", one.step(0, 0, 100, 5), 1);
        DUE.is("good", one.day(0, 0, 0), 1);
        DUE.is("a weak STEP 1 takes nothing", one.day(0, 1, 0), 0);
        // By STEP 3 the weak one takes what 2 should: here as much.
        SlipCoach three = Due.told("line long 100;platform at 95 to 100;kind long 5 roll 0 brakes 1 5 5;"
                + "train starts 0 speed 5 loses 0;coach 0 for 0 at 100;");
        DUE.is("by STEP 2", three.step(0, 0, 100, 5), 2);
        DUE.is("a weak STEP 2 takes what 1 should", three.day(0, 1, 0), 0);
        SlipCoach last = Due.told("line long 100;platform at 0 to 5;kind long 5 roll 0 brakes 1 5 5;"
                + "train starts 0 speed 5 loses 0;coach 0 for 0 at 96;train starts 100 speed 1 loses 0;");
        // It can't be: by STEP 3 it STANDS at 100 at once, weak or not, its tail at 95.
        DUE.is("by STEP 3", last.breach(0), 195);
        DUE.is("a weak STEP 3 takes what 2 should", last.days(0, 1, 1, 0), 1);
    }

    /** PLATFORMS that begin a YARD apart, or at one YARD. */
    private static void ordersByOneYard() {
        SlipCoach x = Due.told("line long 50;platform at 10 to 20;platform at 11 to 20;platform at 10 to 12;"
                + "kind long 1 roll 0 brakes 1 1 1;" + SLOW + "coach 0 for 0 at 0;coach 0 for 1 at 0;coach 0 for 2 at 0;");
        int[] due = {1, 0, 2};
        for (int i = 0; i < 3; i++) {
            DUE.is("order " + i, x.order(0, i), due[i]);
        }
        DUE.is("shunts: COACH 0", x.shunts(0, 1), 1);
        x.swap(0, 1);
        DUE.is("in order, like ones too", x.shunts(0, 0), 0);
        for (int i = 0; i < 3; i++) {
            DUE.is("order as it is " + i, x.order(0, i), due[i]);
        }
    }

    /** YARDS beyond 400 are none, whatever comes there. */
    private static void beyondTheLongest() {
        SlipCoach x = Due.told("line long 400;platform at 390 to 400;kind long 5 roll 0 brakes 1 2 3;"
                + "train starts 0 speed 15 loses 0;coach 0 for 0 at 400;train starts 300 speed 15 loses 0;");
        x.row(0, 0, 60);
        DUE.is("tick", x.tick(0, 400, 15, 0, 0), 415);
        DUE.is("told", x.told(0, 0, 400, 15), -1);
        DUE.is("told", x.told(0, 0, 400, 1), -1);
        DUE.is("judge", x.judge(0, 0, 0, 400, 15), 0);
        DUE.is("judge", x.judge(0, 0, 0, 399, 1), 1);
        DUE.is("can", x.can(0, 0, 400, 4), 0);
        DUE.is("can", x.can(0, 0, 400, 3), 1);
        DUE.is("stands", x.stands(0, 400, 4, 2), 0);
        DUE.is("stands", x.stands(0, 400, 3, 1), 400);
        // 5, 20, .., 395, 410: let go there, it has run off.
        DUE.is("lets", x.lets(0, 1), 410);
        DUE.is("clear", x.clear(0), 27);
        DUE.is("comes", x.comes(0, 0), -1);
        DUE.is("comes", x.comes(0, 2), NOTHING);
        DUE.is("passes", x.passes(0, 400), 27);
        DUE.is("best: each POST needs 15, so the first", x.best(0), x.margin(0, 0));
        DUE.is("breach", x.breach(0), -1);
        DUE.is("good", x.good(), 0);
        DUE.is("a later POST is long at most", x.mistake(1, 99), -1);
        int sum = 0;
        for (int post = 0; post <= 400; post += 50) {
            x.post(0, post);
            sum += x.good();
        }
        DUE.is("good by POSTS up to 350: let go at 50 .. 350", sum, 8);
    }
}
