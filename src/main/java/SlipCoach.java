import java.util.Arrays;

/** A line told as a text, its slip coaches, and what may be asked of them (../shared/DOC.md). */
public final class SlipCoach {
    public static final int NONE = -1;

    private static final int NOTHING = -1000000;
    private static final int NO_SUCH = -2;
    private static final int BELOW_ZERO = -3;
    private static final int FAULTY = -4;
    private static final int EMPTY = -6;
    private static final int NO_NUMBER = -7;
    private static final int UNLIKE = -8;

    private static final int TAPE_MOST = 1600;
    private static final int FED = 20;
    private static final int LONGEST = 400;
    private static final int YARDS = 401;
    private static final int FASTEST = 15;
    private static final int SPEEDS = 16;
    private static final int STEPS = 4;
    private static final int HARDEST_STEP = 3;
    private static final int LATEST_START = 300;
    private static final int FARTHEST_MISTAKE = 99;
    private static final int MISTAKE_SORTS = 3;
    private static final int WEAK_BRAKES = 2;
    private static final int TRAIN_REACHED = 100;
    private static final int MOST_RAIN = 100;
    private static final int MOST_DAYS = 20;
    private static final int GREATEST_SEED = 2000000000;
    private static final int SLOTS = 4;
    private static final int IMAGES = 3;
    /** TICKS of one TRAIN or of one COACH: each goes on by a YARD or more in a TICK, or ends. */
    private static final int SPAN = 404;

    private static final int MOST_SLOPES = 8;
    private static final int MOST_WETS = 6;
    private static final int MOST_LIMITS = 6;
    private static final int MOST_PLATFORMS = 6;
    private static final int MOST_KINDS = 4;
    private static final int MOST_TRAINS = 5;
    private static final int MOST_COACHES = 16;

    private static final int AT = 0;
    private static final int TO = 1;
    private static final int SLOPE_BY = 1;
    private static final int WET_BY = 2;
    private static final int LIMIT_OF = 1;
    private static final int KIND_LONG = 0;
    private static final int KIND_ROLL = 1;
    private static final int KIND_BRAKES = 2;
    private static final int START = 0;
    private static final int TRAIN_SPEED = 1;
    private static final int LOSES = 2;
    private static final int TRAIN = 0;
    private static final int KIND = 1;
    private static final int PLATFORM = 2;
    private static final int POST = 3;
    private static final int PLACE = 4;

    private final byte[] tape = new byte[TAPE_MOST];
    private int taped = 0;
    private final Reader reader = new Reader();
    private Line now = new Line();
    private Line spare = new Line();
    private final Line[] images = new Line[IMAGES];
    private final int[] imageRain = new int[IMAGES];
    private final boolean[] kept = new boolean[IMAGES];
    private final Slot[] slots = new Slot[SLOTS];
    private final Track track = new Track();
    private final Handlings handlings = new Handlings(track);
    private final Reach reach = new Reach();
    private final Journey journey = new Journey(track, handlings);
    private final Breach breach = new Breach(track, journey);
    private final Shunting shunting = new Shunting();

    public SlipCoach() {
        for (int k = 0; k < IMAGES; k++) {
            images[k] = new Line();
        }
        for (int slot = 0; slot < SLOTS; slot++) {
            slots[slot] = new Slot();
        }
        track.lay(now, 0);
    }

    // The TAPE and the LINE that is told by it.

    public int feed(int a, int b, int c, int d, int e) {
        if (taped > TAPE_MOST - FED) {
            return NONE;
        }
        putBytes(a);
        putBytes(b);
        putBytes(c);
        putBytes(d);
        putBytes(e);
        return taped;
    }

    private void putBytes(int number) {
        for (int shift = 24; shift >= 0 && taped < TAPE_MOST; shift -= 8) {
            tape[taped] = (byte) (number >>> shift);
            taped++;
        }
    }

    public int end(int n) {
        if (n < 0 || n > taped) {
            return NONE;
        }
        taped = n;
        return n;
    }

    public int line() {
        reader.read(spare, tape, taped);
        if (reader.fault != 0) {
            return FAULTY;
        }
        Line old = now;
        now = spare;
        spare = old;
        taped = 0;
        layTrack(0);
        return now.lines;
    }

    /** All that is remembered of SLOPES, WET, LIMITS and HANDLINGS is of another LINE or RAIN then. */
    private void layTrack(int rain) {
        track.lay(now, rain);
        handlings.forget();
    }

    public int fault(int what) {
        if (what == 0) {
            return reader.fault;
        }
        return what == 1 ? reader.place : NONE;
    }

    private boolean hasLine() {
        return now.length > 0;
    }

    private boolean hasYard(int yard) {
        return hasLine() && yard >= 0 && yard <= now.length;
    }

    private boolean hasRun(int kind, int yard, int speed) {
        return now.kinds.has(kind) && hasYard(yard) && speed >= 1 && speed <= FASTEST;
    }

    private boolean hasAim(int kind, int platform, int yard, int speed) {
        return hasRun(kind, yard, speed) && now.platforms.has(platform);
    }

    /** As hasAim; if so, HANDLINGS of the KIND to the PLATFORM are known then. */
    private boolean takesAim(int kind, int platform, int yard, int speed) {
        boolean aim = hasAim(kind, platform, yard, speed);
        if (aim) {
            handlings.prepare(kind, platform);
        }
        return aim;
    }

    private static boolean isAmong(int n, int low, int high) {
        return n >= low && n <= high;
    }

    public int yard(int yard, int what) {
        if (!hasYard(yard)) {
            return NO_SUCH;
        }
        switch (what) {
            case 0:
                return track.slopeOf(yard) + 10;
            case 1:
                return track.wetOf(yard);
            case 2:
                return track.limitOf(yard);
            default:
                return NO_SUCH;
        }
    }

    public int coach(int coach, int what) {
        if (!now.coaches.has(coach) || !isAmong(what, TRAIN, PLACE)) {
            return NO_SUCH;
        }
        return now.coaches.get(coach, what);
    }

    public int rain(int n) {
        if (!hasLine() || !isAmong(n, 0, MOST_RAIN)) {
            return NO_SUCH;
        }
        int old = track.rain;
        if (n != old) {
            track.soak(n);
            handlings.forget();
        }
        return old;
    }

    public int post(int coach, int yard) {
        if (!now.coaches.has(coach) || !hasYard(yard)) {
            return NO_SUCH;
        }
        int old = now.coaches.get(coach, POST);
        now.coaches.set(coach, POST, yard);
        return old;
    }

    public int shift(int train, int tick) {
        if (!now.trains.has(train) || !isAmong(tick, 0, LATEST_START)) {
            return NO_SUCH;
        }
        int old = now.trains.get(train, START);
        now.trains.set(train, START, tick);
        return old;
    }

    public int swap(int one, int other) {
        Sheet coaches = now.coaches;
        if (!coaches.has(one) || !coaches.has(other) || one == other
                || coaches.get(one, TRAIN) != coaches.get(other, TRAIN)) {
            return NO_SUCH;
        }
        int place = coaches.get(one, PLACE);
        coaches.set(one, PLACE, coaches.get(other, PLACE));
        coaches.set(other, PLACE, place);
        return 0;
    }

    // One KIND by itself, from a YARD at a SPEED.

    public int tick(int kind, int yard, int speed, int step, int what) {
        if (!hasRun(kind, yard, speed) || !isAmong(step, 0, HARDEST_STEP) || !isAmong(what, 0, 1)) {
            return NO_SUCH;
        }
        int left = track.slowed(kind, yard, speed, step);
        return what == 0 ? yard + left : left;
    }

    public int can(int kind, int platform, int yard, int speed) {
        if (!takesAim(kind, platform, yard, speed)) {
            return NO_SUCH;
        }
        return handlings.firstStep(kind, platform, yard, speed) == NONE ? 0 : 1;
    }

    public int step(int kind, int platform, int yard, int speed) {
        if (!takesAim(kind, platform, yard, speed)) {
            return NO_SUCH;
        }
        return handlings.firstStep(kind, platform, yard, speed);
    }

    public int handled(int kind, int platform, int yard, int speed, int what) {
        if (!takesAim(kind, platform, yard, speed) || !isAmong(what, 0, 2)) {
            return NO_SUCH;
        }
        if (!handlings.follow(kind, platform, yard, speed)) {
            return NONE;
        }
        if (what == 0) {
            return handlings.sum;
        }
        return what == 1 ? handlings.ticks : handlings.where;
    }

    public int hard(int kind, int platform, int yard, int speed) {
        return leastMeasure(kind, platform, yard, speed, Reach.BY_STEP);
    }

    public int quick(int kind, int platform, int yard, int speed) {
        return leastMeasure(kind, platform, yard, speed, Reach.BY_TICKS);
    }

    public int jolt(int kind, int platform, int yard, int speed) {
        return leastMeasure(kind, platform, yard, speed, Reach.BY_DROP);
    }

    /** By the RAIN that the track has for the moment: no HANDLING that is remembered is asked. */
    private int leastMeasure(int kind, int platform, int yard, int speed, int measure) {
        if (!hasAim(kind, platform, yard, speed)) {
            return NO_SUCH;
        }
        int last = now.platforms.get(platform, TO);
        reach.spread(track, kind, yard, speed, measure, last);
        return reach.least(now.firstStand(kind, platform), last);
    }

    public int stands(int kind, int yard, int speed, int what) {
        if (!hasRun(kind, yard, speed) || !isAmong(what, 0, 2)) {
            return NO_SUCH;
        }
        reach.spread(track, kind, yard, speed, Reach.BY_TICKS, now.length);
        int first = NONE;
        int last = NONE;
        int many = 0;
        for (int at = yard; at <= now.length; at++) {
            if (reach.least(at, at) != NONE) {
                first = first == NONE ? at : first;
                last = at;
                many++;
            }
        }
        return firstLastMany(first, last, many, what);
    }

    private static int firstLastMany(int first, int last, int many, int what) {
        if (what == 0) {
            return first;
        }
        return what == 1 ? last : many;
    }

    public int posts(int kind, int platform, int speed, int what) {
        if (!takesAim(kind, platform, 0, speed) || !isAmong(what, 0, 2)) {
            return NO_SUCH;
        }
        int first = NONE;
        int last = NONE;
        int many = 0;
        for (int yard = 0; yard <= now.length; yard++) {
            if (handlings.firstStep(kind, platform, yard, speed) != NONE) {
                first = first == NONE ? yard : first;
                last = yard;
                many++;
            }
        }
        return firstLastMany(first, last, many, what);
    }

    public int speeds(int kind, int platform, int yard) {
        if (!takesAim(kind, platform, yard, 1)) {
            return NO_SUCH;
        }
        int bits = 0;
        for (int speed = 1; speed <= FASTEST; speed++) {
            if (handlings.firstStep(kind, platform, yard, speed) != NONE) {
                bits |= 1 << speed;
            }
        }
        return bits;
    }

    public int wetter(int kind, int platform, int yard, int speed) {
        if (!hasAim(kind, platform, yard, speed)) {
            return NO_SUCH;
        }
        int rain = track.rain;
        int greatest = NONE;
        for (int n = 0; n <= MOST_RAIN; n++) {
            if (n == 0 || track.brakesDiffer(kind, n)) {
                track.soakKind(kind, n);
                if (leastMeasure(kind, platform, yard, speed, Reach.BY_TICKS) == NONE) {
                    break;
                }
            }
            greatest = n;
        }
        track.soakKind(kind, rain);
        return greatest;
    }

    public int room(int kind, int platform) {
        if (!now.kinds.has(kind) || !now.platforms.has(platform)) {
            return NOTHING;
        }
        return now.platforms.get(platform, TO) - now.firstStand(kind, platform);
    }

    public int told(int slot, int kind, int yard, int speed) {
        if (!isAmong(slot, 0, SLOTS - 1) || !hasRun(kind, yard, speed)) {
            return NO_SUCH;
        }
        int wrong = wrongSteps(slots[slot]);
        if (wrong != 0) {
            return wrong;
        }
        int at = yard;
        int left = speed;
        for (int tick = 0; tick < SPAN && at <= now.length; tick++) {
            int step = tick < slots[slot].size ? (int) slots[slot].get(tick) : HARDEST_STEP;
            left = track.slowed(kind, at, left, step);
            if (left == 0) {
                return at;
            }
            at += left;
        }
        return NONE;
    }

    /** 0, if the SLOT has a row and its numbers are STEPS, all of them. */
    private static int wrongSteps(Slot slot) {
        if (!slot.isHeld()) {
            return EMPTY;
        }
        for (int i = 0; i < slot.size; i++) {
            if (slot.get(i) < 0 || slot.get(i) > HARDEST_STEP) {
                return NO_SUCH;
            }
        }
        return 0;
    }

    public int judge(int slot, int kind, int platform, int yard, int speed) {
        if (!isAmong(slot, 0, SLOTS - 1) || !takesAim(kind, platform, yard, speed)) {
            return NO_SUCH;
        }
        int wrong = wrongSteps(slots[slot]);
        if (wrong != 0) {
            return wrong;
        }
        int size = slots[slot].size;
        int at = yard;
        int left = speed;
        for (int tick = 0; tick < size; tick++) {
            left = track.slowed(kind, at, left, (int) slots[slot].get(tick));
            at += left;
            if (left == 0) {
                return now.isInPlatform(kind, platform, at) ? size : tick;
            }
            if (handlings.firstStep(kind, platform, at, left) == NONE) {
                return tick;
            }
        }
        return size;
    }

    // TRAINS, and what they let go.

    public int pulls(int train, int yard, int coaches) {
        if (!now.trains.has(train) || !hasYard(yard) || !isAmong(coaches, 0, MOST_COACHES)) {
            return NO_SUCH;
        }
        return track.pulled(train, yard, coaches);
    }

    public int passes(int train, int yard) {
        if (!now.trains.has(train) || !hasYard(yard)) {
            return NO_SUCH;
        }
        journey.runTrain(train);
        return now.trains.get(train, START) + journey.firstAt(train, yard);
    }

    public int lets(int coach, int what) {
        if (!now.coaches.has(coach) || !isAmong(what, 0, 2)) {
            return NO_SUCH;
        }
        int train = now.coaches.get(coach, TRAIN);
        journey.runTrain(train);
        if (!journey.isLetGo(coach)) {
            return NONE;
        }
        if (what == 0) {
            return now.trains.get(train, START) + journey.letTick[coach];
        }
        return what == 1 ? journey.letYard[coach] : journey.letSpeed[coach];
    }

    private void prepareFor(int coach) {
        handlings.prepare(now.coaches.get(coach, KIND), now.coaches.get(coach, PLATFORM));
    }

    private void prepareAll() {
        for (int coach = 0; coach < now.coaches.count; coach++) {
            prepareFor(coach);
        }
    }

    private void runAlone(int coach) {
        prepareFor(coach);
        journey.runTrain(now.coaches.get(coach, TRAIN));
        journey.runCoach(coach);
    }

    private int startOf(int coach) {
        return now.trains.get(now.coaches.get(coach, TRAIN), START);
    }

    public int comes(int coach, int what) {
        if (!now.coaches.has(coach) || !isAmong(what, 0, 2)) {
            return NO_SUCH;
        }
        runAlone(coach);
        if (!journey.stood[coach]) {
            return what == 2 ? NOTHING : NONE;
        }
        if (what == 1) {
            return startOf(coach) + journey.endTick(coach);
        }
        int front = journey.endYard(coach);
        return what == 0 ? front : shortOf(coach, front);
    }

    private int shortOf(int coach, int front) {
        int platform = now.coaches.get(coach, PLATFORM);
        int first = now.firstStand(now.coaches.get(coach, KIND), platform);
        if (front < first) {
            return first - front;
        }
        return Math.min(0, now.platforms.get(platform, TO) - front);
    }

    public int clear(int coach) {
        if (!now.coaches.has(coach)) {
            return NO_SUCH;
        }
        runAlone(coach);
        if (!journey.isLetGo(coach) || journey.isForGood(coach)) {
            return NONE;
        }
        return startOf(coach) + journey.endTick(coach);
    }

    public int good() {
        if (!hasLine()) {
            return NONE;
        }
        prepareAll();
        journey.runAll();
        return Integer.bitCount(journey.inPlatforms());
    }

    public int breach(int what) {
        if (!hasLine() || !isAmong(what, 0, 2)) {
            return NO_SUCH;
        }
        prepareAll();
        journey.runAll();
        if (!breach.find()) {
            return NONE;
        }
        if (what == 0) {
            return breach.tick;
        }
        return what == 1 ? breach.behind : breach.reached;
    }

    // MISTAKES and days.

    public int mistake(int sort, int n) {
        if (!hasLine() || !isAmong(sort, 0, MISTAKE_SORTS - 1) || !isAmong(n, 0, FARTHEST_MISTAKE)) {
            return NO_SUCH;
        }
        prepareAll();
        journey.runAll();
        for (int coach = 0; coach < now.coaches.count; coach++) {
            if (leadsToBreach(coach, sort, n)) {
                return coach;
            }
        }
        return NONE;
    }

    /** All TRAINS have been run without MISTAKES, and are again when this is answered. */
    private boolean leadsToBreach(int coach, int sort, int n) {
        int train = now.coaches.get(coach, TRAIN);
        journey.err(coach, sort, n);
        journey.runWhole(train);
        boolean found = breach.find();
        journey.errNot();
        journey.runWhole(train);
        return found;
    }

    public int weak(int n) {
        if (!hasLine() || !isAmong(n, 0, FARTHEST_MISTAKE)) {
            return NO_SUCH;
        }
        prepareAll();
        journey.runAll();
        int many = 0;
        for (int coach = 0; coach < now.coaches.count; coach++) {
            for (int sort = 0; sort < MISTAKE_SORTS; sort++) {
                if (leadsToBreach(coach, sort, n)) {
                    many++;
                }
            }
        }
        return many;
    }

    public int start(int train) {
        if (!now.trains.has(train)) {
            return NO_SUCH;
        }
        prepareAll();
        journey.runAll();
        int old = now.trains.get(train, START);
        int first = NONE;
        boolean others = false;
        for (int tick = 0; tick <= LATEST_START && first == NONE && !others; tick++) {
            now.trains.set(train, START, tick);
            if (breach.find()) {
                // What the others do to one another they do by any START of this one.
                others = !breach.concerns(train);
            } else {
                first = tick;
            }
        }
        now.trains.set(train, START, old);
        return first;
    }

    public int days(int seed, int n, int odds, int yards) {
        if (!hasDay(seed, odds, yards) || !isAmong(n, 1, MOST_DAYS)) {
            return NO_SUCH;
        }
        prepareAll();
        int many = 0;
        for (int i = 0; i < n; i++) {
            drawDay(seed + i, odds, yards);
            journey.runAll();
            if (breach.find()) {
                many++;
            }
        }
        journey.errNot();
        return many;
    }

    public int day(int seed, int odds, int yards) {
        if (!hasDay(seed, odds, yards)) {
            return NO_SUCH;
        }
        prepareAll();
        drawDay(seed, odds, yards);
        journey.runAll();
        journey.errNot();
        return journey.inPlatforms();
    }

    private boolean hasDay(int seed, int odds, int yards) {
        return hasLine() && isAmong(seed, 0, GREATEST_SEED) && isAmong(odds, 0, 100)
                && isAmong(yards, 0, FARTHEST_MISTAKE);
    }

    /** The journey has the MISTAKES of a day then. */
    private void drawDay(int seed, int odds, int yards) {
        long x = seed;
        journey.errNot();
        for (int coach = 0; coach < now.coaches.count; coach++) {
            x = drawNext(x);
            if (drawOf(x) < odds) {
                x = drawNext(x);
                journey.err(coach, drawOf(x) % MISTAKE_SORTS, yards);
            }
        }
    }

    private static long drawNext(long x) {
        return (1103515245L * x + 12345L) % 2147483648L;
    }

    private static int drawOf(long x) {
        return (int) (x / 65536L % 100L);
    }

    // Orders of COACHES and POSTS.

    public int shunts(int train, int what) {
        if (!now.trains.has(train) || !isAmong(what, 0, 1)) {
            return NO_SUCH;
        }
        int out = shunting.leastSet(now, train);
        return what == 0 ? Integer.bitCount(out) : out;
    }

    public int order(int train, int i) {
        if (!now.trains.has(train)) {
            return NO_SUCH;
        }
        for (int coach = 0; coach < now.coaches.count; coach++) {
            if (now.coaches.get(coach, TRAIN) == train && shunting.rankOf(now, coach) == i) {
                return coach;
            }
        }
        return NONE;
    }

    public int blocked(int train) {
        if (!now.trains.has(train)) {
            return NO_SUCH;
        }
        int farthest = NONE;
        for (int place = now.coachesOf(train) - 1; place >= 0; place--) {
            int coach = now.coachAt(train, place);
            int post = now.coaches.get(coach, POST);
            if (post < farthest) {
                return coach;
            }
            farthest = Math.max(farthest, post);
        }
        return NONE;
    }

    public int saved(int train, int n) {
        if (!now.trains.has(train) || !isAmong(n, 0, 99)) {
            return NOTHING;
        }
        journey.runTrain(train);
        return journey.ticksKeepingAll(train) + n * now.platformsOf(train) - journey.lastTick[train];
    }

    public int best(int coach) {
        if (!now.coaches.has(coach)) {
            return NO_SUCH;
        }
        prepareFor(coach);
        int old = now.coaches.get(coach, POST);
        int best = NONE;
        int least = 0;
        int same = NONE;
        for (int post = 0; post <= now.length; post++) {
            if (post > same) {
                same = tryPost(coach, post);
                if (journey.followHandling(coach) && (best == NONE || handlings.sum < least)) {
                    best = post;
                    least = handlings.sum;
                }
            }
        }
        now.coaches.set(coach, POST, old);
        return best;
    }

    /** Runs the TRAIN by this POST; the last POST by which the COACH would be LET GO likewise. */
    private int tryPost(int coach, int post) {
        int train = now.coaches.get(coach, TRAIN);
        now.coaches.set(coach, POST, post);
        journey.runTrain(train);
        if (!journey.isLetGo(coach)) {
            return now.length;
        }
        return journey.frontOf(train, journey.letTick[coach]);
    }

    public int margin(int coach, int what) {
        if (!now.coaches.has(coach) || !isAmong(what, 0, 1)) {
            return NO_SUCH;
        }
        prepareFor(coach);
        int old = now.coaches.get(coach, POST);
        int first = NONE;
        int last = NONE;
        int same = NONE;
        boolean well = false;
        for (int post = 0; post <= now.length; post++) {
            if (post > same) {
                same = tryPost(coach, post);
                well = journey.followHandling(coach);
            }
            if (well) {
                first = first == NONE ? post : first;
                last = post;
            }
        }
        now.coaches.set(coach, POST, old);
        return what == 0 ? first : last;
    }

    // Counts, IMAGES, SLOTS.

    public int count(int what) {
        switch (what) {
            case 0:
                return now.length;
            case 1:
                return now.kinds.count;
            case 2:
                return now.platforms.count;
            case 3:
                return now.trains.count;
            case 4:
                return now.coaches.count;
            case 5:
                return now.lines;
            case 6:
                return taped;
            case 7:
                return track.rain;
            case 8:
                return slotsHeld();
            default:
                return NONE;
        }
    }

    private int slotsHeld() {
        int many = 0;
        for (int slot = 0; slot < SLOTS; slot++) {
            if (slots[slot].isHeld()) {
                many++;
            }
        }
        return many;
    }

    public int keep(int k) {
        if (!isAmong(k, 0, IMAGES - 1)) {
            return NO_SUCH;
        }
        images[k].copyFrom(now);
        imageRain[k] = track.rain;
        kept[k] = true;
        return 0;
    }

    public int back(int k) {
        if (!isAmong(k, 0, IMAGES - 1)) {
            return NO_SUCH;
        }
        if (!kept[k]) {
            return EMPTY;
        }
        now.copyFrom(images[k]);
        layTrack(imageRain[k]);
        return 0;
    }

    public int row(int slot, int width, int n) {
        if (!isAmong(slot, 0, SLOTS - 1) || !isAmong(width, 0, 3) || n > Slot.MOST) {
            return NO_SUCH;
        }
        if (n < 0) {
            return BELOW_ZERO;
        }
        slots[slot].hold(width, n);
        return 0;
    }

    public int write(int slot, int i, long v) {
        if (!isAmong(slot, 0, SLOTS - 1)) {
            return NO_SUCH;
        }
        if (!slots[slot].isHeld()) {
            return EMPTY;
        }
        if (i < 0 || i >= slots[slot].size) {
            return NO_NUMBER;
        }
        slots[slot].set(i, v);
        return 0;
    }

    public int paste(int slot, int i, int to, int k, int n) {
        if (!isAmong(slot, 0, SLOTS - 1) || !isAmong(to, 0, SLOTS - 1)) {
            return NO_SUCH;
        }
        Slot from = slots[slot];
        Slot into = slots[to];
        if (!from.isHeld() || !into.isHeld()) {
            return EMPTY;
        }
        if (from.width != into.width) {
            return UNLIKE;
        }
        if (!from.hasPart(i, n) || !into.hasPart(k, n)) {
            return NO_NUMBER;
        }
        System.arraycopy(from.numbers, i, into.numbers, k, n);
        return 0;
    }

    /** Rows of like numbers, as many as a sort of CLAUSE may have. */
    private static final class Sheet {
        final int most;
        final int width;
        final int[] cells;
        int count = 0;

        Sheet(int most, int width) {
            this.most = most;
            this.width = width;
            this.cells = new int[most * width];
        }

        boolean has(int row) {
            return row >= 0 && row < count;
        }

        boolean isFull() {
            return count >= most;
        }

        int add() {
            if (isFull()) {
                return NONE;
            }
            count++;
            return count - 1;
        }

        int get(int row, int column) {
            if (row < 0 || row >= most || column < 0 || column >= width) {
                return 0;
            }
            return cells[row * width + column];
        }

        void set(int row, int column, int value) {
            if (row >= 0 && row < most && column >= 0 && column < width) {
                cells[row * width + column] = value;
            }
        }

        void copyFrom(Sheet other) {
            count = other.count;
            System.arraycopy(other.cells, 0, cells, 0, Math.min(cells.length, other.cells.length));
        }
    }

    /** What is told, with POSTS, STARTS and rows of COACHES as they are now; of length 0: no LINE. */
    private static final class Line {
        int length = 0;
        int lines = 0;
        final Sheet slopes = new Sheet(MOST_SLOPES, 2);
        final Sheet wets = new Sheet(MOST_WETS, 3);
        final Sheet limits = new Sheet(MOST_LIMITS, 2);
        final Sheet platforms = new Sheet(MOST_PLATFORMS, 2);
        final Sheet kinds = new Sheet(MOST_KINDS, 5);
        final Sheet trains = new Sheet(MOST_TRAINS, 3);
        final Sheet coaches = new Sheet(MOST_COACHES, 5);

        void empty() {
            length = 0;
            lines = 0;
            slopes.count = 0;
            wets.count = 0;
            limits.count = 0;
            platforms.count = 0;
            kinds.count = 0;
            trains.count = 0;
            coaches.count = 0;
        }

        void copyFrom(Line other) {
            length = other.length;
            lines = other.lines;
            slopes.copyFrom(other.slopes);
            wets.copyFrom(other.wets);
            limits.copyFrom(other.limits);
            platforms.copyFrom(other.platforms);
            kinds.copyFrom(other.kinds);
            trains.copyFrom(other.trains);
            coaches.copyFrom(other.coaches);
        }

        /** The first YARD of a front whose tail is not ahead of the PLATFORM. */
        int firstStand(int kind, int platform) {
            return platforms.get(platform, AT) + kinds.get(kind, KIND_LONG);
        }

        boolean isInPlatform(int kind, int platform, int front) {
            return front >= firstStand(kind, platform) && front <= platforms.get(platform, TO);
        }

        int lengthOf(int coach) {
            return kinds.get(coaches.get(coach, KIND), KIND_LONG);
        }

        int platformAtOf(int coach) {
            return platforms.get(coaches.get(coach, PLATFORM), AT);
        }

        int coachesOf(int train) {
            int many = 0;
            for (int coach = 0; coach < coaches.count; coach++) {
                if (coaches.get(coach, TRAIN) == train) {
                    many++;
                }
            }
            return many;
        }

        int coachAt(int train, int place) {
            for (int coach = 0; coach < coaches.count; coach++) {
                if (coaches.get(coach, TRAIN) == train && coaches.get(coach, PLACE) == place) {
                    return coach;
                }
            }
            return NONE;
        }

        int platformsOf(int train) {
            int bits = 0;
            for (int coach = 0; coach < coaches.count; coach++) {
                if (coaches.get(coach, TRAIN) == train) {
                    bits |= 1 << coaches.get(coach, PLATFORM);
                }
            }
            return Integer.bitCount(bits);
        }
    }

    /** Reads a TAPE TOKEN by TOKEN; behind the first FAULT nothing more is taken. */
    private static final class Reader {
        private static final int AT_END = 0;
        private static final int WORD = 1;
        private static final int NUMBER = 2;
        private static final int SIGN = 3;
        private static final int NO_TOKEN = 4;
        private static final int MISPLACED = 1;
        private static final int OUT_OF_BOUNDS = 2;
        private static final int TOO_MANY = 3;
        /** A number is not followed beyond this, so that any row of digits fits. */
        private static final int GREAT = 100000;

        private byte[] text = new byte[0];
        private int size = 0;
        private int from = 0;
        private int behind = 0;
        private int sort = AT_END;
        private int value = 0;
        int fault = 0;
        int place = NONE;

        void read(Line line, byte[] tape, int taped) {
            text = tape;
            size = Math.min(taped, tape.length);
            behind = 0;
            fault = 0;
            place = NONE;
            line.empty();
            line.lines = linesOfText();
            advance();
            if (sort != AT_END) {
                readLength(line);
            }
            for (int i = 0; i < size && fault == 0 && sort != AT_END; i++) {
                readClause(line);
            }
        }

        private int linesOfText() {
            int many = 0;
            for (int i = 0; i < size; i++) {
                if (text[i] == '\n' || i == size - 1) {
                    many++;
                }
            }
            return many;
        }

        private static boolean isBlank(byte b) {
            return b == ' ' || b == '\n';
        }

        private static boolean isLetter(byte b) {
            return b >= 'a' && b <= 'z';
        }

        private static boolean isDigit(byte b) {
            return b >= '0' && b <= '9';
        }

        private void advance() {
            from = behind;
            while (from < size && isBlank(text[from])) {
                from++;
            }
            behind = from;
            if (from >= size) {
                sort = AT_END;
            } else if (isLetter(text[from])) {
                sort = WORD;
                while (behind < size && isLetter(text[behind])) {
                    behind++;
                }
            } else if (isDigit(text[from])) {
                sort = NUMBER;
                takeDigits();
            } else {
                sort = text[from] == ';' ? SIGN : NO_TOKEN;
                behind = from + 1;
            }
        }

        private void takeDigits() {
            value = 0;
            while (behind < size && isDigit(text[behind])) {
                value = Math.min(GREAT, value * 10 + text[behind] - '0');
                behind++;
            }
        }

        private void flag(int what) {
            if (fault == 0) {
                fault = what;
                place = from;
            }
        }

        private boolean isWord(String word) {
            if (sort != WORD || behind - from != word.length()) {
                return false;
            }
            for (int i = 0; i < word.length(); i++) {
                if (text[from + i] != word.charAt(i)) {
                    return false;
                }
            }
            return true;
        }

        private void takeWord(String word) {
            if (!isWord(word)) {
                flag(MISPLACED);
            }
            if (fault == 0) {
                advance();
            }
        }

        private int takeNumber(int low, int high) {
            int number = value;
            if (sort != NUMBER) {
                flag(MISPLACED);
            } else if (number < low || number > high) {
                flag(OUT_OF_BOUNDS);
            }
            if (fault != 0) {
                return 0;
            }
            advance();
            return number;
        }

        private void takeSign() {
            if (sort != SIGN) {
                flag(MISPLACED);
            }
            if (fault == 0) {
                advance();
            }
        }

        /** At the word of a CLAUSE: a row for it. */
        private int takeRow(Sheet sheet) {
            if (sheet.isFull()) {
                flag(TOO_MANY);
                return NONE;
            }
            advance();
            return sheet.add();
        }

        private void readLength(Line line) {
            takeWord("line");
            takeWord("long");
            line.length = takeNumber(20, LONGEST);
            takeSign();
        }

        private void readClause(Line line) {
            if (isWord("slope")) {
                readSlope(line);
            } else if (isWord("wet")) {
                readWet(line);
            } else if (isWord("limit")) {
                readLimit(line);
            } else if (isWord("platform")) {
                readPlatform(line);
            } else if (isWord("kind")) {
                readKind(line);
            } else if (isWord("train")) {
                readTrain(line);
            } else if (isWord("coach")) {
                readCoach(line);
            } else {
                flag(MISPLACED);
            }
            takeSign();
        }

        private void readSlope(Line line) {
            int row = takeRow(line.slopes);
            takeWord("at");
            line.slopes.set(row, AT, takeNumber(0, line.length));
            boolean up = isWord("up");
            takeWord(up ? "up" : "down");
            int by = takeNumber(0, 9);
            line.slopes.set(row, SLOPE_BY, up ? by : -by);
        }

        private void readWet(Line line) {
            int row = takeRow(line.wets);
            takeWord("at");
            int at = takeNumber(0, line.length);
            line.wets.set(row, AT, at);
            takeWord("to");
            line.wets.set(row, TO, takeNumber(at, line.length));
            takeWord("by");
            line.wets.set(row, WET_BY, takeNumber(0, 100));
        }

        private void readLimit(Line line) {
            int row = takeRow(line.limits);
            takeWord("at");
            line.limits.set(row, AT, takeNumber(0, line.length));
            takeWord("of");
            line.limits.set(row, LIMIT_OF, takeNumber(1, FASTEST));
        }

        private void readPlatform(Line line) {
            int row = takeRow(line.platforms);
            takeWord("at");
            int at = takeNumber(0, line.length);
            line.platforms.set(row, AT, at);
            takeWord("to");
            line.platforms.set(row, TO, takeNumber(at, line.length));
        }

        private void readKind(Line line) {
            int row = takeRow(line.kinds);
            takeWord("long");
            line.kinds.set(row, KIND_LONG, takeNumber(1, 30));
            takeWord("roll");
            line.kinds.set(row, KIND_ROLL, takeNumber(0, 3));
            takeWord("brakes");
            for (int i = 0; i < STEPS - 1; i++) {
                line.kinds.set(row, KIND_BRAKES + i, takeNumber(1, 9));
            }
        }

        private void readTrain(Line line) {
            int row = takeRow(line.trains);
            takeWord("starts");
            line.trains.set(row, START, takeNumber(0, LATEST_START));
            takeWord("speed");
            line.trains.set(row, TRAIN_SPEED, takeNumber(1, FASTEST));
            takeWord("loses");
            line.trains.set(row, LOSES, takeNumber(0, 5));
        }

        private void readCoach(Line line) {
            int train = line.trains.count - 1;
            if (train < 0) {
                flag(OUT_OF_BOUNDS);
                return;
            }
            int ahead = line.coachesOf(train);
            int row = takeRow(line.coaches);
            line.coaches.set(row, TRAIN, train);
            line.coaches.set(row, PLACE, ahead);
            line.coaches.set(row, KIND, takeNumber(0, line.kinds.count - 1));
            takeWord("for");
            line.coaches.set(row, PLATFORM, takeNumber(0, line.platforms.count - 1));
            takeWord("at");
            line.coaches.set(row, POST, takeNumber(0, line.length));
        }
    }

    /** SLOPE, WET and LIMIT of each YARD, and what they make of SPEEDS. */
    private static final class Track {
        private final int[] slopes = new int[YARDS];
        private final int[] wets = new int[YARDS];
        private final int[] limits = new int[YARDS];
        /** What SPEED loses, by KIND, STEP and YARD: asked so often that it is worked out once. */
        private final int[] takes = new int[MOST_KINDS * STEPS * YARDS];
        Line line = null;
        int rain = 0;

        void lay(Line told, int rains) {
            line = told;
            for (int yard = 0; yard <= told.length && yard < YARDS; yard++) {
                slopes[yard] = lastTold(told.slopes, SLOPE_BY, yard, 0);
                wets[yard] = wettest(told.wets, yard);
                limits[yard] = lastTold(told.limits, LIMIT_OF, yard, FASTEST);
            }
            soak(rains);
        }

        void soak(int rains) {
            for (int kind = 0; line != null && kind < line.kinds.count; kind++) {
                soakKind(kind, rains);
            }
            rain = rains;
        }

        /** RAIN as it is for one KIND; of other KINDS nothing may be asked until it is as before. */
        void soakKind(int kind, int rains) {
            rain = rains;
            int roll = line == null ? 0 : line.kinds.get(kind, KIND_ROLL);
            for (int step = 0; line != null && isAmong(kind, 0, MOST_KINDS - 1) && step < STEPS; step++) {
                int brake = step == 0 ? 0 : line.kinds.get(kind, KIND_BRAKES + step - 1);
                int first = (kind * STEPS + step) * YARDS;
                for (int yard = 0; yard <= line.length && yard < YARDS; yard++) {
                    takes[first + yard] = roll + taken(brake, wetOf(yard)) + slopes[yard];
                }
            }
        }

        private static int lastTold(Sheet sheet, int column, int yard, int without) {
            for (int row = sheet.count - 1; row >= 0; row--) {
                if (sheet.get(row, AT) <= yard) {
                    return sheet.get(row, column);
                }
            }
            return without;
        }

        private static int wettest(Sheet sheet, int yard) {
            int most = 0;
            for (int row = 0; row < sheet.count; row++) {
                if (sheet.get(row, AT) <= yard && yard <= sheet.get(row, TO)) {
                    most = Math.max(most, sheet.get(row, WET_BY));
                }
            }
            return most;
        }

        int slopeOf(int yard) {
            return isAmong(yard, 0, LONGEST) ? slopes[yard] : 0;
        }

        int wetOf(int yard) {
            return isAmong(yard, 0, LONGEST) ? Math.max(rain, wets[yard]) : rain;
        }

        int limitOf(int yard) {
            return isAmong(yard, 0, LONGEST) ? limits[yard] : FASTEST;
        }

        /** A TRAIN's SPEED from a YARD with so many COACHES. */
        int pulled(int train, int yard, int coaches) {
            if (line == null) {
                return 1;
            }
            int own = line.trains.get(train, TRAIN_SPEED) - line.trains.get(train, LOSES) * coaches;
            return Math.max(1, Math.min(own, limitOf(Math.min(yard, line.length))));
        }

        /** SPEED behind a TICK (II). */
        int slowed(int kind, int yard, int speed, int step) {
            return speedLess(speed, takeOf(kind, yard, step));
        }

        /** What SPEED loses (below 0: gains) at a YARD by a STEP. */
        int takeOf(int kind, int yard, int step) {
            if (kind < 0 || kind >= MOST_KINDS || yard < 0 || yard > LONGEST || step < 0 || step >= STEPS) {
                return FASTEST;
            }
            return takes[(kind * STEPS + step) * YARDS + yard];
        }

        private static int taken(int brake, int wet) {
            return brake * (100 - wet) / 100;
        }

        /** Whether some brake of a KIND takes less by RAIN n than by one less. */
        boolean brakesDiffer(int kind, int n) {
            for (int i = 0; line != null && i < STEPS - 1; i++) {
                int brake = line.kinds.get(kind, KIND_BRAKES + i);
                if (taken(brake, n) != taken(brake, n - 1)) {
                    return true;
                }
            }
            return false;
        }
    }

    private static int cellOf(int yard, int speed) {
        return yard * SPEEDS + speed;
    }

    private static int speedLess(int speed, int take) {
        int left = speed - take;
        if (left < 0) {
            return 0;
        }
        return left > FASTEST ? FASTEST : left;
    }

    /** HANDLINGS (III) of each KIND to each PLATFORM, worked out when first asked for. */
    private static final class Handlings {
        private final Track track;
        private final byte[][] steps = new byte[MOST_KINDS * MOST_PLATFORMS][];
        private final boolean[] known = new boolean[MOST_KINDS * MOST_PLATFORMS];
        private final int[] sums = new int[YARDS * SPEEDS];
        /** Of the latest follow: all STEPS together, the TICKS, and where it STANDS. */
        int sum = 0;
        int ticks = 0;
        int where = NONE;

        Handlings(Track track) {
            this.track = track;
        }

        void forget() {
            for (int i = 0; i < known.length; i++) {
                known[i] = false;
            }
        }

        /** The STEP by which a HANDLING that has been prepared begins; NONE: it can't be. */
        int firstStep(int kind, int platform, int yard, int speed) {
            if (!isAmong(kind, 0, MOST_KINDS - 1) || !isAmong(platform, 0, MOST_PLATFORMS - 1)
                    || !isAmong(yard, 0, LONGEST) || !isAmong(speed, 1, FASTEST)) {
                return NONE;
            }
            byte[] table = steps[kind * MOST_PLATFORMS + platform];
            return table == null ? NONE : table[cellOf(yard, speed)];
        }

        void prepare(int kind, int platform) {
            if (!isAmong(kind, 0, MOST_KINDS - 1) || !isAmong(platform, 0, MOST_PLATFORMS - 1)) {
                return;
            }
            int i = kind * MOST_PLATFORMS + platform;
            if (steps[i] == null) {
                steps[i] = new byte[YARDS * SPEEDS];
            }
            if (!known[i]) {
                workOut(kind, platform, steps[i]);
                known[i] = true;
            }
        }

        /** From the PLATFORM's end backwards: a COACH that moves is farther on behind each TICK. */
        private void workOut(int kind, int platform, byte[] table) {
            Arrays.fill(table, (byte) NONE);
            Line line = track.line;
            if (line == null) {
                return;
            }
            int first = line.firstStand(kind, platform);
            int last = Math.min(LONGEST, line.platforms.get(platform, TO));
            for (int yard = last; yard >= 0 && first <= last; yard--) {
                for (int speed = 1; speed <= FASTEST; speed++) {
                    sums[cellOf(yard, speed)] = NONE;
                }
                int standing = yard >= first ? 0 : NONE;
                for (int step = 0; step < STEPS; step++) {
                    tryStep(table, yard, step, track.takeOf(kind, yard, step), standing, last);
                }
            }
        }

        /** Where a STEP leads to a lesser sum than the STEPS below it, it is the one to begin by. */
        private void tryStep(byte[] table, int yard, int step, int take, int standing, int last) {
            for (int speed = 1; speed <= FASTEST; speed++) {
                int left = speedLess(speed, take);
                int all = standing;
                if (left > 0) {
                    all = yard + left > last ? NONE : sums[(yard + left) * SPEEDS + left];
                }
                int cell = yard * SPEEDS + speed;
                if (all != NONE && (sums[cell] == NONE || all + step < sums[cell])) {
                    sums[cell] = all + step;
                    table[cell] = (byte) step;
                }
            }
        }

        /** Goes along a HANDLING to its end; whether there is one. */
        boolean follow(int kind, int platform, int yard, int speed) {
            sum = 0;
            int at = yard;
            int left = speed;
            for (ticks = 1; ticks < SPAN; ticks++) {
                int step = firstStep(kind, platform, at, left);
                if (step == NONE) {
                    return false;
                }
                sum += step;
                left = track.slowed(kind, at, left, step);
                at += left;
                if (left == 0) {
                    where = at;
                    return true;
                }
            }
            return false;
        }
    }

    /** Where a KIND may come to from one YARD at one SPEED, and the least measure by which it does. */
    private static final class Reach {
        static final int BY_STEP = 0;
        static final int BY_TICKS = 1;
        static final int BY_DROP = 2;

        private final int[] moving = new int[YARDS * SPEEDS];
        private final int[] standing = new int[YARDS];
        private int farthest = 0;

        /** What goes beyond the YARD last is not followed. */
        void spread(Track track, int kind, int yard, int speed, int measure, int last) {
            Arrays.fill(moving, NONE);
            Arrays.fill(standing, NONE);
            if (!isAmong(yard, 0, LONGEST) || !isAmong(speed, 1, FASTEST)) {
                return;
            }
            int end = Math.min(LONGEST, last);
            moving[cellOf(yard, speed)] = 0;
            farthest = yard;
            for (int at = yard; at <= farthest && at <= end; at++) {
                for (int step = 0; step < STEPS; step++) {
                    goOn(at, step, track.takeOf(kind, at, step), measure, end);
                }
            }
        }

        private void goOn(int at, int step, int take, int measure, int end) {
            for (int fast = 1; fast <= FASTEST; fast++) {
                int cost = moving[cellOf(at, fast)];
                if (cost != NONE) {
                    int left = speedLess(fast, take);
                    arrive(at + left, left, grown(cost, measure, step, fast - left), end);
                }
            }
        }

        private static int grown(int cost, int measure, int step, int drop) {
            if (measure == BY_TICKS) {
                return cost + 1;
            }
            return Math.max(cost, measure == BY_STEP ? step : drop);
        }

        private void arrive(int yard, int left, int cost, int end) {
            if (yard > end) {
                return;
            }
            if (left == 0) {
                standing[yard] = lesser(standing[yard], cost);
            } else {
                int cell = cellOf(yard, left);
                moving[cell] = lesser(moving[cell], cost);
                farthest = Math.max(farthest, yard);
            }
        }

        private static int lesser(int old, int cost) {
            return old == NONE ? cost : Math.min(old, cost);
        }

        /** The least measure by which it STANDS from a YARD to another; NONE: it can't. */
        int least(int first, int last) {
            int least = NONE;
            for (int yard = Math.max(0, first); yard <= last && yard < YARDS; yard++) {
                if (standing[yard] != NONE) {
                    least = lesser(least, standing[yard]);
                }
            }
            return least;
        }
    }

    /** TRAINS and COACHES TICK by TICK, counted from each TRAIN's START (no START alters a way). */
    private static final class Journey {
        private final Track track;
        private final Handlings handlings;
        private final int[] fronts = new int[MOST_TRAINS * SPAN];
        private final int[] tails = new int[MOST_TRAINS * SPAN];
        /** The TICK behind which a TRAIN is gone. */
        final int[] lastTick = new int[MOST_TRAINS];
        final int[] letTick = new int[MOST_COACHES];
        final int[] letYard = new int[MOST_COACHES];
        final int[] letSpeed = new int[MOST_COACHES];
        private final int[] ways = new int[MOST_COACHES * SPAN];
        private final int[] wayTicks = new int[MOST_COACHES];
        final boolean[] stood = new boolean[MOST_COACHES];
        /** It STANDS, and in its PLATFORM. */
        final boolean[] well = new boolean[MOST_COACHES];
        private final int[] mistakes = new int[MOST_COACHES];
        private int mistakeYards = 0;
        private final int[] row = new int[MOST_COACHES];

        Journey(Track track, Handlings handlings) {
            this.track = track;
            this.handlings = handlings;
            Arrays.fill(mistakes, NONE);
        }

        void err(int coach, int sort, int yards) {
            if (isAmong(coach, 0, MOST_COACHES - 1)) {
                mistakes[coach] = sort;
            }
            mistakeYards = yards;
        }

        void errNot() {
            Arrays.fill(mistakes, NONE);
        }

        private int postOf(Line line, int coach) {
            int post = line.coaches.get(coach, POST);
            if (mistakes[coach] == 0) {
                return Math.max(0, post - mistakeYards);
            }
            return mistakes[coach] == 1 ? Math.min(line.length, post + mistakeYards) : post;
        }

        void runAll() {
            for (int train = 0; track.line != null && train < track.line.trains.count; train++) {
                runWhole(train);
            }
        }

        void runWhole(int train) {
            runTrain(train);
            for (int coach = 0; track.line != null && coach < track.line.coaches.count; coach++) {
                if (track.line.coaches.get(coach, TRAIN) == train) {
                    runCoach(coach);
                }
            }
        }

        void runTrain(int train) {
            Line line = track.line;
            if (line == null || !line.trains.has(train)) {
                return;
            }
            int left = couple(line, train);
            int length = lengthOfRow(line, left);
            int front = length;
            note(train, 0, front, length);
            for (int tick = 1; tick < SPAN && front < line.length; tick++) {
                int speed = track.pulled(train, front, left);
                front += speed;
                while (left > 0 && postOf(line, row[left - 1]) <= front) {
                    left--;
                    int coach = row[left];
                    length -= line.lengthOf(coach);
                    letTick[coach] = tick;
                    letYard[coach] = front - length;
                    letSpeed[coach] = speed;
                }
                note(train, tick, front, length);
            }
        }

        private void note(int train, int tick, int front, int length) {
            fronts[train * SPAN + tick] = front;
            tails[train * SPAN + tick] = front - length;
            lastTick[train] = tick;
        }

        /** Puts a TRAIN's COACHES into row, none LET GO; how many they are. */
        private int couple(Line line, int train) {
            int many = 0;
            for (int coach = 0; coach < line.coaches.count; coach++) {
                int place = line.coaches.get(coach, PLACE);
                if (line.coaches.get(coach, TRAIN) == train && isAmong(place, 0, MOST_COACHES - 1)) {
                    row[place] = coach;
                    letTick[coach] = NONE;
                    many++;
                }
            }
            return many;
        }

        private int lengthOfRow(Line line, int many) {
            int length = 0;
            for (int place = 0; place < many && place < MOST_COACHES; place++) {
                length += line.lengthOf(row[place]);
            }
            return length;
        }

        int ticksKeepingAll(int train) {
            Line line = track.line;
            if (line == null) {
                return 0;
            }
            int many = couple(line, train);
            int front = lengthOfRow(line, many);
            int tick = 0;
            while (tick < SPAN && front < line.length) {
                front += track.pulled(train, front, many);
                tick++;
            }
            return tick;
        }

        /** A COACH's way from where its TRAIN, which has been run, let it go. */
        void runCoach(int coach) {
            Line line = track.line;
            if (line == null || !line.coaches.has(coach)) {
                return;
            }
            stood[coach] = false;
            well[coach] = false;
            wayTicks[coach] = 0;
            if (letTick[coach] == NONE) {
                return;
            }
            int kind = line.coaches.get(coach, KIND);
            int yard = letYard[coach];
            int speed = letSpeed[coach];
            int ticks = 0;
            ways[coach * SPAN] = yard;
            while (ticks < SPAN - 1 && speed > 0 && yard <= line.length) {
                speed = track.slowed(kind, yard, speed, brakeStep(line, coach, yard, speed));
                yard += speed;
                ticks++;
                ways[coach * SPAN + ticks] = yard;
            }
            wayTicks[coach] = ticks;
            stood[coach] = speed == 0;
            well[coach] = stood[coach] && line.isInPlatform(kind, line.coaches.get(coach, PLATFORM), yard);
        }

        /** The STEP that the brakes take by, when the guard has set his. */
        private int brakeStep(Line line, int coach, int yard, int speed) {
            int step = handlings.firstStep(line.coaches.get(coach, KIND),
                    line.coaches.get(coach, PLATFORM), yard, speed);
            if (step == NONE) {
                step = HARDEST_STEP;
            }
            return mistakes[coach] == WEAK_BRAKES ? Math.max(0, step - 1) : step;
        }

        boolean isLetGo(int coach) {
            return isAmong(coach, 0, MOST_COACHES - 1) && letTick[coach] != NONE;
        }

        int endTick(int coach) {
            return letTick[coach] + wayTicks[coach];
        }

        int endYard(int coach) {
            return ways[coach * SPAN + wayTicks[coach]];
        }

        /** It STANDS on the LINE, out of its PLATFORM. */
        boolean isForGood(int coach) {
            return stood[coach] && !well[coach];
        }

        /** Whether a COACH may be brought to its PLATFORM from where its TRAIN let it go. */
        boolean followHandling(int coach) {
            Line line = track.line;
            return line != null && isLetGo(coach) && handlings.follow(line.coaches.get(coach, KIND),
                    line.coaches.get(coach, PLATFORM), letYard[coach], letSpeed[coach]);
        }

        int inPlatforms() {
            int bits = 0;
            for (int coach = 0; track.line != null && coach < track.line.coaches.count; coach++) {
                if (well[coach]) {
                    bits |= 1 << coach;
                }
            }
            return bits;
        }

        /** The first TICK behind which the front is at a YARD or beyond. */
        int firstAt(int train, int yard) {
            for (int tick = 0; tick < lastTick[train]; tick++) {
                if (fronts[train * SPAN + tick] >= yard) {
                    return tick;
                }
            }
            return lastTick[train];
        }

        int frontOf(int train, int tick) {
            return isAmong(tick, 0, SPAN - 1) ? fronts[train * SPAN + tick] : 0;
        }

        int tailOf(int train, int tick) {
            return isAmong(tick, 0, SPAN - 1) ? tails[train * SPAN + tick] : 0;
        }

        boolean isTrainOnLine(int train, int tick) {
            return tick >= 0 && tick < lastTick[train];
        }

        /** So many TICKS behind the one in which it was LET GO. */
        int coachFront(int coach, int ticks) {
            int own = Math.max(0, Math.min(ticks, wayTicks[coach]));
            return ways[coach * SPAN + own];
        }
    }

    /** The BREACH (V) of a journey that has been run, by the STARTS as they are. */
    private static final class Breach {
        private static final int NEVER = 1000000;

        private final Track track;
        private final Journey journey;
        private final int[] starts = new int[MOST_TRAINS];
        /** The TICKS from which and until which a COACH is on the LINE. */
        private final int[] from = new int[MOST_COACHES];
        private final int[] until = new int[MOST_COACHES];
        /** The COACHES and the TRAINS ahead of the one that is followed. */
        private final int[] coaches = new int[MOST_COACHES];
        private int coachesAhead = 0;
        private final int[] trains = new int[MOST_TRAINS];
        private int trainsAhead = 0;
        int tick = NONE;
        int behind = NONE;
        int reached = NONE;

        Breach(Track track, Journey journey) {
            this.track = track;
            this.journey = journey;
        }

        boolean find() {
            Line line = track.line;
            if (line == null) {
                return false;
            }
            setTimes(line);
            tick = NEVER;
            for (int train = 0; train < line.trains.count; train++) {
                followTrain(line, train);
            }
            return tick != NEVER;
        }

        /** TICK by TICK, as long as what it reaches would be ahead of what was found by lesser TRAINS. */
        private void followTrain(Line line, int train) {
            int last = Math.min(journey.lastTick[train], tick - starts[train]);
            lookAhead(line, train, starts[train] + last);
            boolean free = coachesAhead == 0 && trainsAhead == 0;
            for (int own = 0; own < last && !free; own++) {
                int what = reachedAt(line, starts[train] + own, journey.frontOf(train, own));
                if (what != NONE) {
                    tick = starts[train] + own;
                    behind = train;
                    reached = what;
                    return;
                }
            }
        }

        /** Gathers what is ahead of a TRAIN, but for what is on the LINE in none of its TICKS. */
        private void lookAhead(Line line, int train, int end) {
            coachesAhead = 0;
            trainsAhead = 0;
            for (int coach = 0; coach < line.coaches.count; coach++) {
                if (isAhead(line.coaches.get(coach, TRAIN), train) && from[coach] < end && until[coach] > starts[train]) {
                    coaches[coachesAhead] = coach;
                    coachesAhead++;
                }
            }
            for (int other = 0; other < line.trains.count; other++) {
                if (isAhead(other, train) && starts[other] + journey.lastTick[other] > starts[train]) {
                    trains[trainsAhead] = other;
                    trainsAhead++;
                }
            }
        }

        private void setTimes(Line line) {
            for (int train = 0; train < line.trains.count; train++) {
                starts[train] = line.trains.get(train, START);
            }
            for (int coach = 0; coach < line.coaches.count; coach++) {
                int start = line.trains.get(line.coaches.get(coach, TRAIN), START);
                boolean let = journey.isLetGo(coach);
                from[coach] = let ? start + journey.letTick[coach] : NEVER;
                until[coach] = let && !journey.isForGood(coach) ? start + journey.endTick(coach) : NEVER;
            }
        }

        /** What a front there reaches behind this TICK of all that was gathered; NONE: nothing. */
        private int reachedAt(Line line, int at, int front) {
            for (int i = 0; i < coachesAhead; i++) {
                int coach = coaches[i];
                if (at >= from[coach] && at < until[coach]
                        && front >= journey.coachFront(coach, at - from[coach]) - line.lengthOf(coach)) {
                    return coach;
                }
            }
            for (int i = 0; i < trainsAhead; i++) {
                int own = at - starts[trains[i]];
                if (journey.isTrainOnLine(trains[i], own) && front >= journey.tailOf(trains[i], own)) {
                    return TRAIN_REACHED + trains[i];
                }
            }
            return NONE;
        }

        private boolean isAhead(int train, int other) {
            return starts[train] < starts[other] || starts[train] == starts[other] && train < other;
        }

        /** Whether a TRAIN, or a COACH of it, has a part in what was found. */
        boolean concerns(int train) {
            if (behind == train || reached == TRAIN_REACHED + train) {
                return true;
            }
            return track.line != null && track.line.coaches.has(reached)
                    && track.line.coaches.get(reached, TRAIN) == train;
        }
    }

    /** Orders of the COACHES of one TRAIN (VI). */
    private static final class Shunting {
        private final int[] ats = new int[MOST_COACHES];
        private final int[] chains = new int[MOST_COACHES];
        private int many = 0;

        /** How many of its TRAIN are ahead of a COACH when they are in order. */
        int rankOf(Line line, int coach) {
            int rank = 0;
            for (int other = 0; other < line.coaches.count; other++) {
                if (line.coaches.get(other, TRAIN) == line.coaches.get(coach, TRAIN)) {
                    int farther = line.platformAtOf(other) - line.platformAtOf(coach);
                    boolean nearer = line.coaches.get(other, PLACE) < line.coaches.get(coach, PLACE);
                    if (farther > 0 || farther == 0 && nearer) {
                        rank++;
                    }
                }
            }
            return rank;
        }

        /**
         * The least of the smallest sets to take out. From the greatest COACH down each one stays
         * that may stay without a larger set: so the highest bits are spared first.
         */
        int leastSet(Line line, int train) {
            lineUp(line, train);
            int whole = longest(0);
            int stay = 0;
            int out = 0;
            for (int coach = line.coaches.count - 1; coach >= 0; coach--) {
                if (line.coaches.get(coach, TRAIN) == train) {
                    int place = line.coaches.get(coach, PLACE);
                    if (fits(place, stay) && longest(stay | 1 << place) == whole) {
                        stay |= 1 << place;
                    } else {
                        out |= 1 << coach;
                    }
                }
            }
            return out;
        }

        private void lineUp(Line line, int train) {
            many = 0;
            for (int place = 0; place < MOST_COACHES; place++) {
                int coach = line.coachAt(train, place);
                if (coach != NONE) {
                    ats[place] = line.platformAtOf(coach);
                    many = place + 1;
                }
            }
        }

        /** The longest row in order of places that are in order with all of must: it holds these. */
        private int longest(int must) {
            int most = 0;
            for (int place = 0; place < many; place++) {
                chains[place] = 0;
                if (fits(place, must)) {
                    int ahead = 0;
                    for (int other = 0; other < place; other++) {
                        if (ats[other] >= ats[place]) {
                            ahead = Math.max(ahead, chains[other]);
                        }
                    }
                    chains[place] = ahead + 1;
                    most = Math.max(most, ahead + 1);
                }
            }
            return most;
        }

        private boolean fits(int place, int must) {
            for (int other = 0; other < many; other++) {
                if ((must >> other & 1) == 1 && other != place) {
                    int first = Math.min(other, place);
                    int second = Math.max(other, place);
                    if (!isAmong(first, 0, many - 1) || !isAmong(second, 0, many - 1)
                            || ats[first] < ats[second]) {
                        return false;
                    }
                }
            }
            return true;
        }
    }

    /** A row of numbers of one WIDTH, or nothing. */
    private static final class Slot {
        static final int MOST = 60;

        final long[] numbers = new long[MOST];
        int width = NONE;
        int size = 0;

        boolean isHeld() {
            return width != NONE;
        }

        void hold(int newWidth, int n) {
            width = newWidth;
            size = Math.max(0, Math.min(MOST, n));
            Arrays.fill(numbers, 0L);
        }

        long get(int i) {
            return i >= 0 && i < size ? numbers[i] : 0L;
        }

        void set(int i, long v) {
            if (i >= 0 && i < size) {
                numbers[i] = cutTo(v);
            }
        }

        private long cutTo(long v) {
            switch (width) {
                case 0:
                    return (byte) v;
                case 1:
                    return (short) v;
                case 2:
                    return (int) v;
                default:
                    return v;
            }
        }

        /** Whether n numbers from i on are all in the row. */
        boolean hasPart(int i, int n) {
            return i >= 0 && n >= 0 && i <= size && n <= size - i;
        }
    }
}
