import java.math.BigInteger;

/** The document from its first line once more: sentences that no other test held the class to by hand. */
public final class DocumentTest {
    /** At 12 or less a COACH STANDS at once, by no STEP: one TICK behind, where it was let go. */
    private static final String STEEP = "line long 50;slope at 0 up 9;kind long 5 roll 3 brakes 1 2 3;";
    private static final String SLOW = "train starts 0 speed 1 loses 0;";
    private static final Due DUE = new Due();

    public static void main(String[] args) {
        callsUpTo512();
        standsForGood();
        coachStandsForGood();
        brakesByStep3();
        brakesFromWhereHeIs();
        weakStep3();
        coachesAheadOfTrains();
        goneAtStart();
        tailOfTheCoachesLeft();
        firstOfSeveralMistakes();
        breachWithoutMistake();
        standsApart();
        setsOfCoachNumbers();
        drawsOneByOne();
        savedWhateverTheStart();
        toHisPlatform();
        postsBehindAnother();
        allHandlingsAnew();
        slotsStay();
        DUE.close("DocumentTest");
    }

    private static void breachIs(String name, SlipCoach x, int tick, int behind, int reached) {
        int[] due = {tick, behind, reached};
        for (int what = 0; what < 3; what++) {
            DUE.is(name + ": breach(" + what + ")", x.breach(what), due[what]);
        }
    }

    /** What it is: "An object is used for at most 512 calls": the last ones answer as the first did. */
    private static void callsUpTo512() {
        SlipCoach x = new SlipCoach();
        String text = "line long 100;platform at 60 to 70;kind long 5 roll 0 brakes 1 2 3;"
                + "train starts 0 speed 10 loses 0;coach 0 for 0 at 50;train starts 5 speed 9 loses 0;";
        int calls = 0;
        int[] first = null;
        int round = (text.length() + 19) / 20 + 18;
        while (calls + round <= 512) {
            for (int i = 0; i < text.length(); i += 20) {
                x.feed(Due.four(text, i), Due.four(text, i + 4), Due.four(text, i + 8), Due.four(text, i + 12),
                        Due.four(text, i + 16));
                calls++;
            }
            int[] answers = {x.line(), x.rain(33), x.can(0, 0, 50, 10), x.keep(1), x.rain(34), x.can(0, 0, 50, 10),
                x.breach(0), x.back(1), x.comes(0, 0), x.weak(30), x.start(1), x.days(1, 20, 50, 30), x.best(0),
                x.wetter(0, 0, 50, 10), x.row(0, 0, 60), x.write(0, 59, 3), x.told(0, 0, 0, 1), x.count(6)};
            calls += answers.length;
            DUE.is("calls of a round", calls % round, 0);
            first = first == null ? answers : first;
            for (int i = 0; i < answers.length; i++) {
                DUE.is("answer " + i + " of the calls up to " + calls, answers[i], first[i]);
            }
        }
        DUE.is("line()", first[0], 1);
        DUE.is("can in RAIN 33", first[2], 1);
        DUE.is("can in RAIN 34", first[5], 0);
    }

    /** II: "At SPEED 0 it STANDS for good", though it stands on a slope and the row goes on by STEP 0. */
    private static void standsForGood() {
        SlipCoach x = Due.told("line long 60;slope at 0 down 2;platform at 10 to 30;kind long 5 roll 0 brakes 9 9 9;");
        x.row(0, 0, 3);
        x.write(0, 0, 1);
        DUE.is("told", x.told(0, 0, 20, 5), 20);
        DUE.is("told at the end", x.told(0, 0, 60, 5), 60);
        DUE.is("judge in the PLATFORM", x.judge(0, 0, 0, 20, 5), 3);
        DUE.is("judge at to", x.judge(0, 0, 0, 30, 5), 3);
        DUE.is("judge ahead of the PLATFORM", x.judge(0, 0, 0, 12, 5), 0);
        x.write(0, 0, 0);
        x.write(0, 1, 1);
        // 15 by 5: 22 by 7, where it STANDS.
        DUE.is("told by the second number", x.told(0, 0, 15, 5), 22);
        DUE.is("judge by the second number", x.judge(0, 0, 0, 15, 5), 3);
    }

    /** The same of a COACH: on a slope it does not go on from where it STANDS, in its PLATFORM or out of it. */
    private static void coachStandsForGood() {
        String down = "line long 60;slope at 0 down 2;kind long 5 roll 0 brakes 9 9 9;";
        String trains = "train starts 0 speed 5 loses 0;coach 0 for 0 at 12;train starts 300 speed 1 loses 0;";
        SlipCoach in = Due.told(down + "platform at 10 to 30;" + trains);
        // LET GO at 15 behind 2; 22 behind 3, and there it STANDS behind 4.
        DUE.is("comes", in.comes(0, 0), 22);
        DUE.is("comes", in.comes(0, 1), 4);
        DUE.is("clear", in.clear(0), 4);
        breachIs("in its PLATFORM", in, -1, -1, -1);
        SlipCoach out = Due.told(down + "platform at 0 to 5;" + trains);
        DUE.is("comes", out.comes(0, 0), 15);
        DUE.is("comes", out.comes(0, 1), 3);
        DUE.is("clear", out.clear(0), -1);
        breachIs("out of it, the tail at 10", out, 310, 1, 0);
    }

    /** V: "by STEP 3, if it can't be", though STEP 1 would take more. */
    private static void brakesByStep3() {
        SlipCoach x = Due.told("line long 100;platform at 0 to 5;kind long 5 roll 0 brakes 9 5 1;"
                + "train starts 0 speed 10 loses 0;coach 0 for 0 at 20;");
        // LET GO at 25 by 10 behind 2: 34, 42, 49, 55, 60, 64, 67, 69, 70, and it STANDS.
        DUE.is("lets", x.lets(0, 1), 25);
        DUE.is("comes", x.comes(0, 0), 70);
        DUE.is("comes", x.comes(0, 1), 12);
        DUE.is("comes", x.comes(0, 2), -65);
    }

    /** V: "from where he is in each TICK", "(the guard does not know)": asked of step() TICK by TICK. */
    private static void brakesFromWhereHeIs() {
        int well = 0;
        int other = 0;
        for (int post = 0; post <= 100; post++) {
            SlipCoach x = Due.told("line long 100;platform at 60 to 80;kind long 5 roll 1 brakes 1 3 8;"
                    + "train starts 0 speed 10 loses 0;coach 0 for 0 at " + post + ";");
            int in = weakEnd(x, true);
            DUE.is("weak brakes from POST " + post, x.day(0, 1, 0), in);
            well += in;
            other += in == weakEnd(x, false) ? 0 : 1;
        }
        DUE.is("by some POSTS it STANDS there", well > 0 ? 1 : 0, 1);
        DUE.is("by some POSTS it does not", well < 101 ? 1 : 0, 1);
        DUE.is("by some POSTS the first HANDLING alone would lead elsewhere", other > 0 ? 1 : 0, 1);
    }

    /** Whether it STANDS in its PLATFORM by weak brakes, from where he is, or as if they had taken what they should. */
    private static int weakEnd(SlipCoach x, boolean fromWhereHeIs) {
        int yard = x.lets(0, 1);
        int speed = x.lets(0, 2);
        int thoughtYard = yard;
        int thoughtSpeed = speed;
        while (speed > 0 && yard <= 100) {
            int atYard = fromWhereHeIs ? yard : thoughtYard;
            int atSpeed = fromWhereHeIs ? speed : thoughtSpeed;
            int step = atSpeed > 0 && atYard <= 100 ? x.step(0, 0, atYard, atSpeed) : 3;
            step = step < 0 ? 3 : step;
            if (!fromWhereHeIs && atSpeed > 0 && atYard <= 100) {
                thoughtYard = x.tick(0, atYard, atSpeed, step, 0);
                thoughtSpeed = x.tick(0, atYard, atSpeed, step, 1);
            }
            int left = x.tick(0, yard, speed, Math.max(0, step - 1), 1);
            yard += left;
            speed = left;
        }
        return speed == 0 && yard >= 65 && yard <= 80 ? 1 : 0;
    }

    /** V, sort 2: "its brakes take by each STEP what the STEP below should": by STEP 3 what 2 should. */
    private static void weakStep3() {
        SlipCoach x = Due.told("line long 100;platform at 95 to 100;kind long 5 roll 0 brakes 1 2 5;"
                + "train starts 0 speed 5 loses 0;coach 0 for 0 at 100;");
        DUE.is("by STEP 3", x.step(0, 0, 100, 5), 3);
        DUE.is("it STANDS there", x.day(0, 0, 0), 1);
        // Seed 0 draws 0, then 68: sort 2.
        DUE.is("by 2 instead of 5 it runs off", x.day(0, 1, 0), 0);
        // It can't be: by STEP 3 it STANDS at 100 at once, for good; the weak one runs off.
        SlipCoach y = Due.told("line long 100;platform at 0 to 5;kind long 5 roll 0 brakes 1 2 5;"
                + "train starts 0 speed 5 loses 0;coach 0 for 0 at 100;train starts 100 speed 1 loses 0;");
        breachIs("the tail at 95", y, 195, 1, 0);
        DUE.is("no BREACH by weak brakes", y.mistake(2, 0), -1);
        DUE.is("the others lead to it", y.mistake(0, 0), 0);
    }

    /** V: "then the least COACH, then the least TRAIN that is reached": both in one TICK. */
    private static void coachesAheadOfTrains() {
        String kind = "line long 50;slope at 0 up 9;kind long 1 roll 3 brakes 1 2 3;platform at 0 to 1;";
        SlipCoach x = Due.told(kind + SLOW + "coach 0 for 0 at 10;train starts 8 speed 15 loses 0;");
        // Behind 9 the COACH is LET GO at 10, its tail at 9, TRAIN 0's at 10; TRAIN 1 is at 15.
        breachIs("the COACH, not its TRAIN", x, 9, 1, 0);
        SlipCoach y = Due.told(kind + SLOW + "train starts 2 speed 1 loses 0;coach 0 for 0 at 10;"
                + "train starts 10 speed 15 loses 0;");
        // Behind 11 TRAIN 0 is at 11, TRAIN 1 at 10 as the COACH, TRAIN 2 at 15.
        breachIs("the COACH, not the least TRAIN", y, 11, 2, 0);
        y.post(0, 50);
        breachIs("the least TRAIN without it", y, 11, 2, 100);
    }

    /** V: "(from START on, START's own YARD too, not gone)": of one that is gone at START. */
    private static void goneAtStart() {
        String kind = "line long 20;platform at 0 to 20;kind long 20 roll 0 brakes 1 2 3;";
        SlipCoach reached = Due.told(kind + "train starts 7 speed 1 loses 0;coach 0 for 0 at 0;train starts 7 speed 1 loses 0;");
        breachIs("it is not reached", reached, -1, -1, -1);
        DUE.is("start", reached.start(1), 0);
        SlipCoach comes = Due.told(kind + "train starts 7 speed 1 loses 0;train starts 9 speed 1 loses 0;coach 0 for 0 at 0;");
        breachIs("it reaches none", comes, -1, -1, -1);
        DUE.is("start", comes.start(1), 0);
    }

    /** V: "(A tail: the front less the length.)", of a TRAIN that has LET some COACHES go. */
    private static void tailOfTheCoachesLeft() {
        SlipCoach x = Due.told("line long 60;slope at 0 up 9;kind long 10 roll 3 brakes 1 2 3;platform at 1 to 11;" + SLOW
                + "coach 0 for 0 at 60;coach 0 for 0 at 21;train starts 3 speed 2 loses 0;");
        // COACH 1 is in its PLATFORM behind 2; the tail is at 10 + t then, the other front at 2 (t - 3).
        DUE.is("clear", x.clear(1), 2);
        breachIs("the tail of one COACH", x, 16, 1, 100);
        x.post(1, 60);
        breachIs("the tail of both", x, 6, 1, 100);
    }

    private static SlipCoach threeTrains(int platformOfTheFirst) {
        String later = "coach 0 for 0 at 28;";
        return Due.told(STEEP + "platform at 20 to 30;platform at 0 to 50;" + SLOW + "coach 0 for " + platformOfTheFirst
                + " at 28;train starts 100 speed 1 loses 0;" + later + "train starts 200 speed 1 loses 0;" + later
                + "train starts 300 speed 1 loses 0;");
    }

    /** Promises 33 and 34: "The first COACH", "how many", where several lead to a BREACH. */
    private static void firstOfSeveralMistakes() {
        for (int sort = 0; sort < 2; sort++) {
            DUE.is("all three lead to it, sort " + sort, threeTrains(0).mistake(sort, 9), 0);
            DUE.is("two lead to it, sort " + sort, threeTrains(1).mistake(sort, 9), 1);
        }
        DUE.is("brakes that are not needed", threeTrains(0).mistake(2, 9), -1);
        DUE.is("weak of three", threeTrains(0).weak(9), 6);
        DUE.is("weak of two", threeTrains(1).weak(9), 4);
    }

    /** A BREACH that is there without a MISTAKE is there with one, too. */
    private static void breachWithoutMistake() {
        SlipCoach x = Due.told(STEEP + "platform at 20 to 30;" + SLOW + "coach 0 for 0 at 28;coach 0 for 0 at 22;" + SLOW);
        breachIs("at START", x, 0, 1, 100);
        for (int sort = 0; sort < 3; sort++) {
            DUE.is("mistake of sort " + sort, x.mistake(sort, 0), 0);
        }
        DUE.is("weak", x.weak(0), 6);
        DUE.is("days", x.days(0, 20, 0, 0), 20);
    }

    /** Promise 19: "how many YARDS", which lie apart. */
    private static void standsApart() {
        SlipCoach x = Due.told("line long 50;kind long 1 roll 0 brakes 9 9 9;");
        int[] due = {0, 45, 6};
        int[] later = {4, 49, 6};
        for (int what = 0; what < 3; what++) {
            DUE.is("stands " + what, x.stands(0, 0, 9, what), due[what]);
            DUE.is("stands from 4, " + what, x.stands(0, 4, 9, what), later[what]);
        }
    }

    /** Promise 36: "which (what 1: the least set, as bits)": bits of COACHES, wherever they are in their rows. */
    private static void setsOfCoachNumbers() {
        SlipCoach x = Due.told("line long 50;platform at 10 to 20;platform at 30 to 40;kind long 1 roll 0 brakes 1 1 1;"
                + SLOW + "coach 0 for 0 at 0;coach 0 for 1 at 0;" + SLOW + "coach 0 for 0 at 0;coach 0 for 1 at 0;"
                + "coach 0 for 0 at 0;");
        DUE.is("COACH 0 of 0, 1", x.shunts(0, 1), 1);
        DUE.is("COACH 2 of 2, 3, 4", x.shunts(1, 1), 4);
        x.swap(2, 3);
        DUE.is("none of 3, 2, 4", x.shunts(1, 1), 0);
        x.swap(3, 4);
        DUE.is("COACH 3 of 4, 2, 3", x.shunts(1, 1), 8);
        DUE.is("it alone", x.shunts(1, 0), 1);
        DUE.is("the other TRAIN is as it was", x.shunts(0, 1), 1);
    }

    /** Six COACHES, a PLATFORM for each that is just as long: let go at its POST each STANDS in it. */
    private static SlipCoach sixCoaches(String ahead) {
        StringBuilder text = new StringBuilder(ahead);
        for (int c = 0; c < 6; c++) {
            int front = 30 + 10 * (5 - c) - c;
            text.append("platform at ").append(front - 1).append(" to ").append(front).append(';');
        }
        text.append(SLOW);
        for (int c = 0; c < 6; c++) {
            text.append("coach 0 for ").append(c).append(" at ").append(30 + 10 * (5 - c)).append(';');
        }
        return Due.told(text.toString());
    }

    /** VII: "COACH by COACH a draw", the draws one behind another from one seed; each MISTAKE is its own COACH's. */
    private static void drawsOneByOne() {
        // Where each STANDS at once weak brakes are no matter; on the level an earlier POST is none by a YARD.
        SlipCoach steep = sixCoaches("line long 100;slope at 0 up 9;kind long 1 roll 3 brakes 1 1 1;");
        SlipCoach level = sixCoaches("line long 100;kind long 1 roll 0 brakes 1 1 1;");
        DUE.is("good", steep.good(), 6);
        DUE.is("good", level.good(), 6);
        for (int c = 0; c < 6; c++) {
            DUE.is("in PLATFORM " + c, steep.comes(c, 2), 0);
            DUE.is("at its own YARD", steep.comes(c, 0), 30 + 10 * (5 - c) - c);
        }
        for (int seed = 0; seed < 40; seed++) {
            for (int odds = 0; odds <= 100; odds += 25) {
                int[] sorts = sortsDrawn(seed, odds);
                int bits = 0;
                int levelBits = 0;
                for (int c = 0; c < 6; c++) {
                    bits |= sorts[c] == 0 || sorts[c] == 1 ? 0 : 1 << c;
                    levelBits |= sorts[c] == 1 || sorts[c] == 2 ? 0 : 1 << c;
                }
                DUE.is("day(" + seed + ", " + odds + ", 1)", steep.day(seed, odds, 1), bits);
                DUE.is("day(" + seed + ", " + odds + ", 1) on the level", level.day(seed, odds, 1), levelBits);
            }
        }
    }

    private static int[] sortsDrawn(int seed, int odds) {
        int[] sorts = new int[6];
        BigInteger x = BigInteger.valueOf(seed);
        for (int c = 0; c < 6; c++) {
            x = next(x);
            sorts[c] = -1;
            if (draw(x) < odds) {
                x = next(x);
                sorts[c] = draw(x) % 3;
            }
        }
        return sorts;
    }

    private static BigInteger next(BigInteger x) {
        return x.multiply(BigInteger.valueOf(1103515245)).add(BigInteger.valueOf(12345)).mod(BigInteger.valueOf(2147483648L));
    }

    private static int draw(BigInteger x) {
        return x.divide(BigInteger.valueOf(65536)).mod(BigInteger.valueOf(100)).intValue();
    }

    /** Promise 39: TICKS that a TRAIN needs, not the one in which it is at the end. */
    private static void savedWhateverTheStart() {
        SlipCoach x = Due.told("line long 50;kind long 5 roll 0 brakes 1 1 1;platform at 0 to 5;"
                + "train starts 0 speed 3 loses 5;coach 0 for 0 at 0;");
        int[] starts = {0, 1, 150, 299, 300};
        for (int start : starts) {
            x.shift(0, start);
            // 45 TICKS by 1 with it; 1 and 15 by 3 without.
            DUE.is("saved from START " + start, x.saved(0, 0), 29);
            DUE.is("saved from START " + start, x.saved(0, 4), 33);
        }
    }

    /** V: "to his PLATFORM": another one that he comes through is none of his. */
    private static void toHisPlatform() {
        SlipCoach x = Due.told("line long 100;platform at 0 to 5;platform at 30 to 100;kind long 5 roll 0 brakes 1 2 3;"
                + "train starts 0 speed 10 loses 0;coach 0 for 0 at 20;train starts 200 speed 1 loses 0;");
        // LET GO at 25 by 10 behind 2; by STEP 3: 32, 36, 37, and there it STANDS.
        DUE.is("comes", x.comes(0, 0), 37);
        DUE.is("comes", x.comes(0, 1), 6);
        DUE.is("comes", x.comes(0, 2), -32);
        DUE.is("clear", x.clear(0), -1);
        DUE.is("good", x.good(), 0);
        DUE.is("day", x.day(0, 0, 0), 0);
        breachIs("the tail at 32", x, 232, 1, 0);
    }

    /** Promises 40 and 41: "all else as it is": what is behind a COACH keeps it back. */
    private static void postsBehindAnother() {
        String text = STEEP + "platform at 20 to 30;" + SLOW + "coach 0 for 0 at 50;coach 0 for 0 at ";
        SlipCoach x = Due.told(text + "30;");
        DUE.is("margin: let go with the one behind it", x.margin(0, 0), 0);
        DUE.is("margin", x.margin(0, 1), 30);
        DUE.is("best", x.best(0), 0);
        SlipCoach late = Due.told(text + "31;");
        DUE.is("margin: let go too late by each POST", late.margin(0, 0), -1);
        DUE.is("margin", late.margin(0, 1), -1);
        DUE.is("best", late.best(0), -1);
        SlipCoach early = Due.told(text + "24;");
        DUE.is("margin: the one behind it is gone", early.margin(0, 0), 25);
        DUE.is("margin", early.margin(0, 1), 30);
        // Swapped it is the last one, let go with its front 5 YARDS behind the TRAIN's.
        early.swap(0, 1);
        DUE.is("margin of the last one", early.margin(0, 0), 30);
        DUE.is("margin of the last one", early.margin(0, 1), 35);
    }

    /** Each KIND to each PLATFORM, asked for ahead of and behind what changes LINE or RAIN. */
    private static void allHandlingsAnew() {
        SlipCoach x = Due.told(fourKinds(40));
        pairsAre("dry", x, 40, 1);
        x.keep(2);
        x.rain(100);
        pairsAre("in RAIN", x, 40, 0);
        x.keep(0);
        x.rain(0);
        pairsAre("dry once more", x, 40, 1);
        x.back(0);
        pairsAre("back to RAIN", x, 40, 0);
        x.back(2);
        pairsAre("back to none", x, 40, 1);
        Due.tape(x, fourKinds(30));
        x.line();
        pairsAre("on another LINE", x, 30, 1);
    }

    private static String fourKinds(int length) {
        StringBuilder text = new StringBuilder("line long 400;");
        for (int p = 0; p < 6; p++) {
            text.append("platform at ").append(60 * p).append(" to ").append(60 * p + length).append(';');
        }
        for (int k = 1; k <= 4; k++) {
            text.append("kind long ").append(k).append(" roll 0 brakes ").append(k).append(' ').append(2 * k).append(" 9;");
        }
        return text.toString();
    }

    /** At to by 9: it STANDS at once by STEP 3, or it can't be; a YARD beyond it never can. */
    private static void pairsAre(String name, SlipCoach x, int length, int may) {
        for (int kind = 0; kind < 4; kind++) {
            for (int platform = 0; platform < 6; platform++) {
                int to = 60 * platform + length;
                String pair = name + ": KIND " + kind + " to PLATFORM " + platform;
                DUE.is(pair + ", can", x.can(kind, platform, to, 9), may);
                DUE.is(pair + ", step", x.step(kind, platform, to, 9), may == 1 ? 3 : -1);
                DUE.is(pair + ", beyond", x.can(kind, platform, to + 1, 9), 0);
            }
        }
    }

    /** Promises 4, 45 and 46 say nothing of SLOTS: each has its row behind them. */
    private static void slotsStay() {
        SlipCoach x = Due.told("line long 400;kind long 1 roll 0 brakes 1 1 1;");
        for (int slot = 0; slot < 4; slot++) {
            x.row(slot, slot, 9);
            x.write(slot, slot + 2, 1);
        }
        x.keep(0);
        slotsAre("behind keep", x);
        x.back(0);
        slotsAre("behind back", x);
        Due.tape(x, "line long 300;kind long 1 roll 0 brakes 1 1 1;");
        x.line();
        slotsAre("behind line", x);
        Due.tape(x, "line long 19;");
        x.line();
        slotsAre("behind a FAULT", x);
        x.rain(50);
        x.rain(0);
        slotsAre("behind rain", x);
    }

    private static void slotsAre(String name, SlipCoach x) {
        DUE.is(name + ": SLOTS that have a row", x.count(8), 4);
        for (int slot = 0; slot < 4; slot++) {
            // By 1 a TICK until the number that is 1.
            DUE.is(name + ": told by " + slot, x.told(slot, 0, 0, 1), slot + 2);
        }
    }
}
