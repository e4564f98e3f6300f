import java.util.function.ToIntFunction;

/** Behind a call that is refused, and behind one that only asks, all is as it was. */
public final class RefusedTest {
    private static final int MIN = Integer.MIN_VALUE;
    private static final int MAX = Integer.MAX_VALUE;
    private static final int NOTHING = -1000000;
    private static final String WORLD = "line long 90;slope at 60 up 1;wet at 70 to 80 by 30;limit at 70 of 9;"
            + "platform at 20 to 40;platform at 50 to 90;kind long 5 roll 0 brakes 1 2 3;kind long 3 roll 1 brakes 2 4 9;"
            + "train starts 0 speed 10 loses 1;coach 0 for 1 at 30;coach 1 for 0 at 10;coach 0 for 0 at 9;"
            + "train starts 14 speed 12 loses 0;coach 1 for 1 at 40;";
    private static final Due DUE = new Due();
    private static String before = "";

    public static void main(String[] args) {
        before = Seen.of(made());
        DUE.is("made twice alike", Seen.of(made()).equals(before) ? 1 : 0, 1);
        changesAreSeen();
        tape();
        changes();
        images();
        rows();
        pastes();
        questionsRefused();
        trainsRefused();
        daysRefused();
        questions();
        trainQuestions();
        faultyLine();
        withoutLine();
        DUE.close("RefusedTest");
    }

    /** LINE, RAIN, two IMAGES, SLOTS, a FAULT, and a TAPE that tells another LINE. */
    private static SlipCoach made() {
        SlipCoach x = Due.told(WORLD);
        x.keep(0);
        x.rain(12);
        x.post(0, 31);
        x.shift(1, 15);
        x.swap(0, 2);
        x.keep(2);
        x.rain(5);
        x.row(0, 0, 4);
        x.write(0, 2, 1);
        x.row(1, 0, 3);
        x.write(1, 1, 2);
        x.row(2, 3, 2);
        Due.tape(x, "line long 19;");
        x.line();
        Due.tape(x, "line long 33;slope at 3 down 2;");
        return x;
    }

    private static void same(String call, int want, ToIntFunction<SlipCoach> asked) {
        SlipCoach x = made();
        DUE.is(call, asked.applyAsInt(x), want);
        DUE.is("all is as it was behind " + call, Seen.of(x).equals(before) ? 1 : 0, 1);
    }

    /** The answer itself is tested elsewhere. */
    private static void asks(String call, ToIntFunction<SlipCoach> asked) {
        SlipCoach x = made();
        int first = asked.applyAsInt(x);
        DUE.is(call + " is not refused", first == -2 || first == NOTHING ? 1 : 0, 0);
        DUE.is(call + " once more", asked.applyAsInt(x), first);
        DUE.is("all is as it was behind " + call, Seen.of(x).equals(before) ? 1 : 0, 1);
    }

    private static void differs(String call, ToIntFunction<SlipCoach> change) {
        SlipCoach x = made();
        DUE.is(call, change.applyAsInt(x) >= 0 ? 1 : 0, 1);
        DUE.is(call + " is seen", Seen.of(x).equals(before) ? 1 : 0, 0);
    }

    /** Else it would prove nothing that nothing else is seen. */
    private static void changesAreSeen() {
        differs("feed", x -> x.feed(0x20202020, 0x20202020, 0x20202020, 0x20202020, 0x20202020));
        differs("end", x -> x.end(13));
        differs("line", x -> x.line());
        differs("rain", x -> x.rain(6));
        differs("post", x -> x.post(2, 8));
        differs("shift", x -> x.shift(0, 1));
        differs("swap", x -> x.swap(0, 2));
        differs("keep", x -> x.keep(0));
        differs("keep", x -> x.keep(1));
        differs("back", x -> x.back(0));
        differs("row", x -> x.row(3, 0, 0));
        differs("row of another WIDTH", x -> x.row(2, 2, 2));
        differs("row of one more", x -> x.row(2, 3, 3));
        differs("write", x -> x.write(0, 3, 1));
        differs("paste", x -> x.paste(0, 2, 1, 0, 1));
    }

    private static void tape() {
        same("end(-1)", -1, x -> x.end(-1));
        same("end(MIN)", -1, x -> x.end(MIN));
        same("end of one more", -1, x -> x.end(x.count(6) + 1));
        same("end(MAX)", -1, x -> x.end(MAX));
        same("end of all", 31, x -> x.end(31));
        SlipCoach x = Due.told(WORLD);
        SlipCoach y = Due.told(WORLD);
        String text = "line long 33;slope at 3 down 2;";
        String full = text + " ".repeat(1581 - text.length());
        Due.tape(x, full);
        Due.tape(y, full);
        DUE.is("feed to 1,601", x.feed(0x78787878, 1, 1, 1, 1), -1);
        DUE.is("all is as it was behind feed", Seen.of(x).equals(Seen.of(y)) ? 1 : 0, 1);
    }

    private static void changes() {
        same("rain(-1)", -2, x -> x.rain(-1));
        same("rain(101)", -2, x -> x.rain(101));
        same("post of no COACH", -2, x -> x.post(4, 5));
        same("post of no COACH", -2, x -> x.post(-1, 5));
        same("post beyond long", -2, x -> x.post(0, 91));
        same("post below 0", -2, x -> x.post(0, -1));
        same("shift of no TRAIN", -2, x -> x.shift(2, 5));
        same("shift of no TRAIN", -2, x -> x.shift(-1, 5));
        same("shift above 300", -2, x -> x.shift(0, 301));
        same("shift below 0", -2, x -> x.shift(0, -1));
        same("swap of one twice", -2, x -> x.swap(1, 1));
        same("swap of two TRAINS", -2, x -> x.swap(0, 3));
        same("swap of two TRAINS", -2, x -> x.swap(3, 2));
        same("swap of no COACH", -2, x -> x.swap(0, 4));
        same("swap of no COACH", -2, x -> x.swap(-1, 0));
        same("swap and swap", 0, x -> x.swap(0, 1) + x.swap(1, 0));
    }

    private static void images() {
        same("keep(-1)", -2, x -> x.keep(-1));
        same("keep(3)", -2, x -> x.keep(3));
        same("back(-1)", -2, x -> x.back(-1));
        same("back(3)", -2, x -> x.back(3));
        same("back to nothing", -6, x -> x.back(1));
        for (int k = 0; k < 3; k += 2) {
            int asked = k;
            SlipCoach x = made();
            x.back(asked);
            SlipCoach y = made();
            y.back(asked);
            y.rain(50);
            y.swap(1, 2);
            y.post(3, 3);
            y.back(asked);
            DUE.is("back once more", Seen.of(y).equals(Seen.of(x)) ? 1 : 0, 1);
        }
    }

    private static void rows() {
        for (int slot = 0; slot < 4; slot++) {
            int asked = slot;
            same("row of -1", -3, x -> x.row(asked, 1, -1));
            same("row of MIN", -3, x -> x.row(asked, 1, MIN));
            same("row of 61", -2, x -> x.row(asked, 1, 61));
            same("row of MAX", -2, x -> x.row(asked, 1, MAX));
            same("row of WIDTH 4", -2, x -> x.row(asked, 4, 1));
            same("row of WIDTH -1", -2, x -> x.row(asked, -1, 1));
            same("write at -1", asked == 3 ? -6 : -7, x -> x.write(asked, -1, 3));
            same("write at 60", asked == 3 ? -6 : -7, x -> x.write(asked, 60, 3));
        }
        same("row of SLOT 4", -2, x -> x.row(4, 1, 1));
        same("row of SLOT -1", -2, x -> x.row(-1, 1, 1));
        same("write behind the last", -7, x -> x.write(0, 4, 3));
        same("write behind the last", -7, x -> x.write(1, 3, 3));
        same("write to SLOT 4", -2, x -> x.write(4, 0, 3));
        same("write to SLOT -1", -2, x -> x.write(-1, 0, 3));
        same("write to nothing", -6, x -> x.write(3, 0, 3));
        same("write of what it is", 0, x -> x.write(0, 2, 257));
    }

    private static void pastes() {
        same("paste from SLOT 4", -2, x -> x.paste(4, 0, 0, 0, 1));
        same("paste to SLOT -1", -2, x -> x.paste(0, 0, -1, 0, 1));
        same("paste from nothing", -6, x -> x.paste(3, 0, 0, 0, 1));
        same("paste to nothing", -6, x -> x.paste(0, 0, 3, 0, 1));
        same("paste to another WIDTH", -8, x -> x.paste(0, 0, 2, 0, 1));
        same("paste from another WIDTH", -8, x -> x.paste(2, 0, 0, 0, 1));
        same("paste of one too many", -7, x -> x.paste(0, 2, 1, 0, 3));
        same("paste to one too few", -7, x -> x.paste(0, 2, 1, 2, 2));
        same("paste of all to its own, one on", -7, x -> x.paste(0, 0, 0, 1, 4));
        same("paste from below 0", -7, x -> x.paste(0, -1, 1, 0, 2));
        same("paste to below 0", -7, x -> x.paste(0, 2, 1, -1, 2));
        same("paste of -1", -7, x -> x.paste(0, 2, 1, 0, -1));
        same("paste of MAX", -7, x -> x.paste(0, MAX, 1, MAX, MAX));
        same("paste of MIN", -7, x -> x.paste(0, MIN, 1, MIN, MIN));
        same("paste of none", 0, x -> x.paste(0, 2, 1, 0, 0));
        same("paste of none at the ends", 0, x -> x.paste(0, 4, 1, 3, 0));
        same("paste to where it is", 0, x -> x.paste(0, 0, 0, 0, 4));
    }

    private static void questionsRefused() {
        same("fault", -1, x -> x.fault(2));
        same("count", -1, x -> x.count(9));
        same("yard", -2, x -> x.yard(91, 0));
        same("coach", -2, x -> x.coach(4, 0));
        same("tick", -2, x -> x.tick(0, 0, 16, 0, 0));
        same("can", -2, x -> x.can(0, 2, 0, 1));
        same("step", -2, x -> x.step(2, 0, 0, 1));
        same("handled", -2, x -> x.handled(0, 0, 0, 1, 3));
        same("hard", -2, x -> x.hard(0, 0, 91, 1));
        same("quick", -2, x -> x.quick(0, 0, 0, 0));
        same("jolt", -2, x -> x.jolt(-1, 0, 0, 1));
        same("stands", -2, x -> x.stands(0, 0, 1, 3));
        same("posts", -2, x -> x.posts(0, 0, 1, -1));
        same("speeds", -2, x -> x.speeds(0, -1, 1));
        same("wetter", -2, x -> x.wetter(0, 0, -1, 1));
        same("room", NOTHING, x -> x.room(2, 0));
        same("told", -2, x -> x.told(4, 0, 0, 1));
        same("told by nothing", -6, x -> x.told(3, 0, 0, 1));
        same("judge", -2, x -> x.judge(0, 0, 2, 0, 1));
        same("judge by nothing", -6, x -> x.judge(3, 0, 0, 0, 1));
    }

    private static void trainsRefused() {
        same("pulls", -2, x -> x.pulls(0, 0, 17));
        same("passes", -2, x -> x.passes(0, 91));
        same("lets", -2, x -> x.lets(0, 3));
        same("comes", -2, x -> x.comes(4, 0));
        same("clear", -2, x -> x.clear(-1));
        same("breach", -2, x -> x.breach(3));
        same("start", -2, x -> x.start(2));
        same("shunts", -2, x -> x.shunts(0, 2));
        same("order", -2, x -> x.order(2, 0));
        same("order of none", -1, x -> x.order(0, 3));
        same("blocked", -2, x -> x.blocked(2));
        same("saved", NOTHING, x -> x.saved(0, 100));
        same("best", -2, x -> x.best(4));
        same("margin", -2, x -> x.margin(0, 2));
    }

    private static void daysRefused() {
        same("mistake of no sort", -2, x -> x.mistake(3, 0));
        same("mistake by 100", -2, x -> x.mistake(0, 100));
        same("weak by 100", -2, x -> x.weak(100));
        same("weak by -1", -2, x -> x.weak(-1));
        same("days of none", -2, x -> x.days(0, 0, 0, 0));
        same("days of 21", -2, x -> x.days(0, 21, 100, 9));
        same("days of no seed", -2, x -> x.days(2000000001, 1, 100, 9));
        same("day of no seed", -2, x -> x.day(-1, 100, 9));
        same("day of odds 101", -2, x -> x.day(0, 101, 9));
        same("day by 100", -2, x -> x.day(0, 100, 100));
    }

    private static void questions() {
        asks("yard", x -> x.yard(20, 1));
        asks("tick", x -> x.tick(1, 20, 15, 3, 0));
        asks("can", x -> x.can(1, 1, 20, 15));
        asks("step", x -> x.step(1, 1, 20, 15));
        asks("handled", x -> x.handled(1, 1, 20, 15, 0));
        asks("hard", x -> x.hard(1, 1, 20, 15));
        asks("quick", x -> x.quick(1, 1, 20, 15));
        asks("jolt", x -> x.jolt(1, 1, 20, 15));
        asks("stands", x -> x.stands(1, 20, 15, 2));
        asks("posts", x -> x.posts(1, 1, 15, 2));
        asks("speeds", x -> x.speeds(1, 1, 20));
        asks("wetter", x -> x.wetter(1, 1, 20, 15));
        asks("wetter of none", x -> x.wetter(0, 0, 41, 15));
        asks("wetter and can", x -> x.wetter(1, 1, 20, 9) * 2 + x.can(1, 1, 20, 9));
        asks("room", x -> x.room(1, 1));
        asks("told", x -> x.told(1, 1, 20, 15));
        asks("judge", x -> x.judge(1, 1, 1, 20, 15));
    }

    private static void trainQuestions() {
        for (int i = 0; i < 4; i++) {
            int n = i;
            asks("lets", x -> x.lets(n, 1));
            asks("comes", x -> x.comes(n, 0));
            asks("clear", x -> x.clear(n));
            asks("best", x -> x.best(n));
            asks("margin", x -> x.margin(n, 1));
        }
        for (int i = 0; i < 2; i++) {
            int n = i;
            asks("start", x -> x.start(n));
            asks("shunts", x -> x.shunts(n, 1));
            asks("order", x -> x.order(n, 0));
            asks("blocked", x -> x.blocked(n));
            asks("saved", x -> x.saved(n, 99));
            asks("passes", x -> x.passes(n, 90));
        }
        for (int i = 0; i < 3; i++) {
            int n = i;
            asks("mistake", x -> x.mistake(n, 20));
        }
        asks("good", x -> x.good());
        asks("breach", x -> x.breach(0));
        asks("weak", x -> x.weak(20));
        asks("days", x -> x.days(5, 20, 80, 20));
        asks("day", x -> x.day(5, 100, 20));
        asks("day, then breach", x -> x.day(5, 100, 20) * 1000 + x.breach(0));
    }

    /** Behind -4 all is as it was, but for the FAULT. */
    private static void faultyLine() {
        String[] texts = {"line", "line long 401;", "line long 33;slope at 34 up 1;", "x", "line long 20;coach 0 for 0 at 0;",
            "line long 33;" + "limit at 0 of 1;".repeat(7)};
        for (String text : texts) {
            SlipCoach x = made();
            SlipCoach y = made();
            Due.tape(x, text);
            Due.tape(y, text);
            DUE.is("line() of " + text, x.line(), -4);
            DUE.is("line() once more", x.line(), -4);
            DUE.is("line() of " + text, y.line(), -4);
            DUE.is("all stays", Seen.of(x).equals(Seen.of(y)) ? 1 : 0, 1);
            SlipCoach z = made();
            Due.tape(z, text);
            z.line();
            Due.tape(z, "line long 19;");
            z.line();
            Due.tape(z, "line long 33;slope at 3 down 2;");
            DUE.is("all stays behind FAULTS", Seen.of(z).equals(before) ? 1 : 0, 1);
        }
    }

    /** Nothing that is refused for want of a LINE makes one. */
    private static void withoutLine() {
        String none = Seen.of(new SlipCoach());
        SlipCoach x = new SlipCoach();
        int[] refused = {x.rain(5), x.post(0, 0), x.shift(0, 0), x.swap(0, 1), x.yard(0, 0), x.coach(0, 0), x.tick(0, 0, 1, 0, 0),
            x.can(0, 0, 0, 1), x.stands(0, 0, 1, 0), x.posts(0, 0, 1, 0), x.speeds(0, 0, 0), x.wetter(0, 0, 0, 1),
            x.told(0, 0, 0, 1), x.judge(0, 0, 0, 0, 1), x.pulls(0, 0, 0), x.passes(0, 0), x.lets(0, 0), x.comes(0, 2),
            x.clear(0), x.breach(0), x.mistake(0, 0), x.weak(0), x.start(0), x.shunts(0, 0), x.order(0, 0), x.blocked(0),
            x.best(0), x.margin(0, 0), x.days(0, 1, 0, 0), x.day(0, 0, 0), x.step(0, 0, 0, 1), x.handled(0, 0, 0, 1, 0),
            x.hard(0, 0, 0, 1), x.quick(0, 0, 0, 1), x.jolt(0, 0, 0, 1)};
        for (int i = 0; i < refused.length; i++) {
            DUE.is("refused without a LINE, " + i, refused[i], -2);
        }
        DUE.is("good without a LINE", x.good(), -1);
        DUE.is("room without a LINE", x.room(0, 0), NOTHING);
        DUE.is("saved without a LINE", x.saved(0, 0), NOTHING);
        DUE.is("nothing is made", Seen.of(x).equals(none) ? 1 : 0, 1);
    }
}
