import java.util.LinkedHashMap;
import java.util.List;
import java.util.Map;
import java.util.function.Function;
import java.util.function.ToIntFunction;

/** What a call that is not refused changes, part by part: what its promise names, and nothing else. */
public final class ChangesTest {
    private static final String CLAUSES = "line long 90;slope at 60 up 1;wet at 70 to 80 by 30;limit at 70 of 9;"
            + "platform at 20 to 40;platform at 50 to 90;kind long 5 roll 0 brakes 1 2 3;kind long 3 roll 1 brakes 2 4 9;";
    private static final String WORLD = CLAUSES + "train starts 3 speed 10 loses 1;coach 0 for 1 at 30;coach 1 for 0 at 10;"
            + "coach 0 for 0 at 9;train starts 14 speed 12 loses 0;coach 1 for 1 at 40;coach 0 for 1 at 35;";
    private static final String OTHER = "line long 80;\nslope at 9 down 1;\nkind long 6 roll 0 brakes 1 2 3;platform at 0 to 70;"
            + "platform at 10 to 60;kind long 4 roll 0 brakes 2 3 4;train starts 1 speed 9 loses 0;coach 1 for 0 at 8;";
    private static final int NOT_MADE = -99;
    private static final Due DUE = new Due();
    private static final Map<String, Function<SlipCoach, String>> PARTS = parts();

    public static void main(String[] args) {
        madeAsSaid();
        theTape();
        theLine();
        oneOfTheLine();
        images();
        slots();
        questions();
        DUE.close("ChangesTest");
    }

    /** Each part has a number of its own that a change of another would show. */
    private static SlipCoach made() {
        SlipCoach x = Due.told(WORLD);
        x.keep(0);
        x.rain(12);
        x.post(0, 31);
        x.shift(1, 15);
        x.swap(0, 2);
        x.keep(2);
        x.rain(5);
        x.post(3, 41);
        x.shift(0, 4);
        for (int slot = 0; slot < 3; slot++) {
            x.row(slot, 1, 4 + slot);
            x.write(slot, 3 - slot, 1);
        }
        Due.tape(x, "line long 19;");
        x.line();
        Due.tape(x, OTHER);
        return x;
    }

    private static Map<String, Function<SlipCoach, String>> parts() {
        Map<String, Function<SlipCoach, String>> parts = new LinkedHashMap<>();
        parts.put("TAPE", ChangesTest::tape);
        parts.put("FAULT", x -> x.fault(0) + " " + x.fault(1));
        parts.put("CLAUSES", ChangesTest::clauses);
        parts.put("RAIN", x -> x.count(7) + " " + x.yard(0, 1) + " " + x.yard(75, 1));
        for (int i = 0; i < 5; i++) {
            int coach = i;
            parts.put("POST " + coach, x -> x.coach(coach, 3) + "");
            parts.put("PLACE " + coach, x -> x.coach(coach, 4) + "");
        }
        for (int i = 0; i < 2; i++) {
            int train = i;
            parts.put("START " + train, x -> x.passes(train, 0) + "");
        }
        for (int i = 0; i < 3; i++) {
            int k = i;
            parts.put("IMAGE " + k, x -> image(x, k));
        }
        for (int i = 0; i < 4; i++) {
            int slot = i;
            parts.put("SLOT " + slot, x -> slot(x, slot));
        }
        return parts;
    }

    private static String tape(SlipCoach x) {
        return x.count(6) + " " + x.line() + " " + x.fault(0) + " " + x.fault(1) + clauses(x);
    }

    /** What no call but line and back changes. */
    private static String clauses(SlipCoach x) {
        StringBuilder seen = new StringBuilder();
        for (int what = 0; what < 6; what++) {
            seen.append(' ').append(x.count(what));
        }
        for (int yard = 0; yard <= 90; yard++) {
            seen.append(' ').append(x.yard(yard, 0)).append(' ').append(x.yard(yard, 2));
        }
        for (int kind = 0; kind < 2; kind++) {
            seen.append(' ').append(x.tick(kind, 0, 15, 0, 1)).append(' ').append(x.room(kind, 0)).append(' ').append(x.room(kind, 1));
        }
        for (int coach = 0; coach < 5; coach++) {
            seen.append(' ').append(x.coach(coach, 0)).append(' ').append(x.coach(coach, 1)).append(' ').append(x.coach(coach, 2));
        }
        return seen.append(' ').append(x.pulls(0, 0, 1)).append(' ').append(x.pulls(1, 0, 1)).toString();
    }

    private static String image(SlipCoach x, int k) {
        int had = x.back(k);
        StringBuilder seen = new StringBuilder().append(had);
        if (had == 0) {
            seen.append(clauses(x)).append(" RAIN ").append(x.count(7)).append(' ').append(x.yard(0, 1));
            for (int coach = 0; coach < 5; coach++) {
                seen.append(' ').append(x.coach(coach, 3)).append(' ').append(x.coach(coach, 4));
            }
            seen.append(' ').append(x.passes(0, 0)).append(' ').append(x.passes(1, 0));
        }
        return seen.toString();
    }

    /** On a level LINE, by 3 at first: how far it goes by each number alone; how many they are; their WIDTH. */
    private static String slot(SlipCoach x, int slot) {
        Due.tape(x, "line long 400;kind long 1 roll 0 brakes 1 2 3;");
        x.line();
        StringBuilder seen = new StringBuilder().append(x.told(slot, 0, 0, 3)).append(' ').append(x.told(slot, 0, 0, 15));
        for (int width = 0; width < 4; width++) {
            int other = slot == 0 ? 1 : 0;
            x.row(other, width, 1);
            for (int i = 0; i < 8; i++) {
                seen.append(' ').append(x.paste(slot, i, other, 0, 1)).append(' ').append(x.told(other, 0, 0, 3));
            }
        }
        return seen.toString();
    }

    /** What both sides of a comparison have come to alike, neither shows: so here it is by number. */
    private static void madeAsSaid() {
        SlipCoach x = made();
        numbersAre("made", x, 5, new int[] {31, 10, 9, 41, 35}, new int[] {2, 1, 0, 0, 1}, 4, 15);
        DUE.is("FAULT", x.fault(0), 2);
        DUE.is("its place", x.fault(1), 10);
        DUE.is("bytes of the TAPE", x.count(6), OTHER.length());
        DUE.is("lines of text", x.count(5), 1);
        DUE.is("SLOTS that have a row", x.count(8), 3);
        // In RAIN a brake of 1 takes nothing.
        x.rain(0);
        for (int slot = 0; slot < 3; slot++) {
            DUE.is("SLOT " + slot + " has so many", x.write(slot, 3 + slot, slot == 0 ? 1 : 0), 0);
            DUE.is("SLOT " + slot + " has no more", x.write(slot, 4 + slot, 0), -7);
            // KIND 0 by 1 from YARD 0, level there: it STANDS in the TICK of the number 1.
            DUE.is("SLOT " + slot + " by its number", x.told(slot, 0, 0, 1), 3 - slot);
        }
        DUE.is("back to nothing", x.back(1), -6);
        x.back(0);
        numbersAre("IMAGE 0", x, 0, new int[] {30, 10, 9, 40, 35}, new int[] {0, 1, 2, 0, 1}, 3, 14);
        x.back(2);
        numbersAre("IMAGE 2", x, 12, new int[] {31, 10, 9, 40, 35}, new int[] {2, 1, 0, 0, 1}, 3, 15);
        DUE.is("the TAPE", x.line(), 3);
        DUE.is("what it tells", x.count(0), 80);
    }

    private static void numbersAre(String name, SlipCoach x, int rain, int[] posts, int[] places, int... starts) {
        DUE.is(name + ": RAIN", x.count(7), rain);
        for (int coach = 0; coach < posts.length; coach++) {
            DUE.is(name + ": POST " + coach, x.coach(coach, 3), posts[coach]);
            DUE.is(name + ": PLACE " + coach, x.coach(coach, 4), places[coach]);
            DUE.is(name + ": PLATFORM " + coach, x.coach(coach, 2), coach == 1 || coach == 2 ? 0 : 1);
        }
        for (int train = 0; train < starts.length; train++) {
            DUE.is(name + ": START " + train, x.passes(train, 0), starts[train]);
        }
        DUE.is(name + ": LIMIT", x.yard(70, 2), 9);
    }

    /** Just these parts are others behind the call. */
    private static void changes(String name, int answer, ToIntFunction<SlipCoach> call, String... changed) {
        changesFrom(name, x -> 0, answer, call, changed);
    }

    private static void changesFrom(String name, ToIntFunction<SlipCoach> ahead, int answer, ToIntFunction<SlipCoach> call,
            String... changed) {
        for (Map.Entry<String, Function<SlipCoach, String>> part : PARTS.entrySet()) {
            SlipCoach x = made();
            ahead.applyAsInt(x);
            SlipCoach y = made();
            ahead.applyAsInt(y);
            DUE.is(name, y.count(0) == 90 ? call.applyAsInt(y) : NOT_MADE, answer);
            boolean same = part.getValue().apply(x).equals(part.getValue().apply(y));
            DUE.is(name + ": " + part.getKey() + " is as it was", same ? 1 : 0, List.of(changed).contains(part.getKey()) ? 0 : 1);
        }
    }

    /** Promises 2 and 3. */
    private static void theTape() {
        int bytes = OTHER.length();
        changes("feed", bytes + 20, x -> x.feed(0x20202020, 0x20202020, 0x20202020, 0x20202020, 0x20202020), "TAPE");
        changes("end", 13, x -> x.end(13), "TAPE");
        changes("end(0)", 0, x -> x.end(0), "TAPE");
        changes("end of all", bytes, x -> x.end(bytes));
    }

    /** Promise 4: a LINE in place of another is another in all that is of it; a FAULT is but a FAULT. */
    private static void theLine() {
        changes("line()", 3, x -> x.line(), "TAPE", "FAULT", "CLAUSES", "RAIN", "POST 0", "POST 1", "POST 2", "POST 3", "POST 4",
                "PLACE 0", "PLACE 1", "PLACE 2", "PLACE 3", "PLACE 4", "START 0", "START 1");
        changesFrom("line() of a FAULT", x -> x.end(9), -4, x -> x.line(), "FAULT");
        changesFrom("line() of a FAULT of the end", x -> x.end(12), -4, x -> x.line(), "FAULT");
        changesFrom("line() of it once more", x -> x.end(12) + x.line(), -4, x -> x.line());
    }

    /** Promises 8 to 11. */
    private static void oneOfTheLine() {
        changes("rain", 5, x -> x.rain(6), "RAIN");
        changes("rain of what there is", 5, x -> x.rain(5));
        int[] posts = {31, 10, 9, 41, 35};
        for (int i = 0; i < posts.length; i++) {
            int coach = i;
            changes("post of " + coach, posts[coach], x -> x.post(coach, 77), "POST " + coach);
            changes("post where it is", posts[coach], x -> x.post(coach, posts[coach]));
        }
        changes("shift of 0", 4, x -> x.shift(0, 15), "START 0");
        changes("shift of 1", 15, x -> x.shift(1, 4), "START 1");
        changes("shift to where it is", 15, x -> x.shift(1, 15));
        changes("swap 0 and 1", 0, x -> x.swap(0, 1), "PLACE 0", "PLACE 1");
        changes("swap 2 and 0", 0, x -> x.swap(2, 0), "PLACE 0", "PLACE 2");
        changes("swap 3 and 4", 0, x -> x.swap(3, 4), "PLACE 3", "PLACE 4");
    }

    /** Promises 45 and 46. */
    private static void images() {
        for (int i = 0; i < 3; i++) {
            int k = i;
            changes("keep " + k, 0, x -> x.keep(k), "IMAGE " + k);
        }
        changes("back to 0", 0, x -> x.back(0), "RAIN", "POST 0", "POST 3", "START 0", "START 1", "PLACE 0", "PLACE 2");
        changes("back to 2", 0, x -> x.back(2), "RAIN", "POST 3", "START 0");
        changesFrom("keep what an IMAGE has", x -> x.back(2), 0, x -> x.keep(2));
        changesFrom("back to what was kept", x -> x.keep(1), 0, x -> x.back(1));
    }

    /** Promises 47 to 49. */
    private static void slots() {
        for (int i = 0; i < 4; i++) {
            int slot = i;
            changes("row of " + slot, 0, x -> x.row(slot, 2, 7), "SLOT " + slot);
        }
        for (int i = 0; i < 3; i++) {
            int slot = i;
            changes("write to " + slot, 0, x -> x.write(slot, 0, 2), "SLOT " + slot);
            changes("paste to " + slot, 0, x -> x.paste((slot + 1) % 3, 0, slot, 0, 4), "SLOT " + slot);
        }
        changes("paste to its own", 0, x -> x.paste(2, 1, 2, 0, 2), "SLOT 2");
        changes("write of what it is", 0, x -> x.write(0, 3, 65537));
        changes("paste of none", 0, x -> x.paste(0, 0, 1, 0, 0));
    }

    /** Those that run TRAINS by other POSTS, STARTS, RAIN or brakes than there are. */
    private static void questions() {
        changes("count", OTHER.length(), x -> x.count(6));
        changes("wetter", 100, x -> x.wetter(1, 1, 70, 1));
        changes("start", 0, x -> Math.min(0, x.start(0)));
        changes("best", 0, x -> Math.min(0, x.best(1) + 1));
        changes("margin", 0, x -> Math.min(0, x.margin(4, 1) + 1));
        changes("weak", 0, x -> Math.min(0, x.weak(30)));
        changes("mistake", 0, x -> Math.min(0, x.mistake(1, 30) + 1));
        changes("days", 0, x -> Math.min(0, x.days(7, 20, 100, 30)));
        changes("day", 0, x -> Math.min(0, x.day(7, 100, 30)));
    }
}
