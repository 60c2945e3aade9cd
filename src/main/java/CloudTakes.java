import java.util.NoSuchElementException;

/**
 * A day of filming between clouds: the sky by minutes, shots that want one light from their first
 * minute to their last, acts that can be undone, days by a rule, and what the best day would give.
 */
public final class CloudTakes {
    /** There is none. */
    public static final int NONE = -1;

    private static final int TEXT_MOST = 700;
    private static final int BYTES_FED = 20;
    private static final int MINUTES_MOST = 480;
    private static final int SHOTS_MOST = 8;
    private static final int SETS = 1 << SHOTS_MOST;
    private static final int PARTS_MOST = 16;
    private static final int RULES_MOST = 4;
    private static final int ACTS_MOST = 40;
    private static final int SEEN_MOST = 8;
    private static final int WAIT_MOST = 60;
    private static final int COLD_MOST = 100;
    private static final int DAYS_MOST = 10;

    private static final int OUT = 0;
    private static final int INSIDE = 1;

    private static final int KIND_WIDE = 0;
    private static final int KIND_NEAR = 1;
    private static final int KIND_INSIDE = 2;

    private static final int LIGHT_ANY = 0;
    private static final int LIGHT_SUN = 1;
    private static final int LIGHT_CLOUD = 2;

    private static final int REFUSED_TEXTS = 0;
    private static final int REFUSED_ACTS = 1;
    private static final int REFUSED_SEEN = 2;

    private final byte[] tape = new byte[TEXT_MOST];
    private int tapeLength = 0;
    private int faultPlace = NONE;
    private Plan plan = new Plan();
    private Plan sparePlan = new Plan();
    private final Parser parser = new Parser(sparePlan);
    private final Scene scene = new Scene();
    private final Scene imageKept = new Scene();
    private boolean hasImage = false;
    /** A state to try things on, which are not to be so in truth. */
    private final State trialState = new State();
    private final Outlook outlook = new Outlook(plan, trialState);
    private final DayRun run = new DayRun(plan);
    private final Search search = new Search(plan, trialState);

    public CloudTakes() {
    }

    public int feed(int a, int b, int c, int d, int e) {
        if (tapeLength + BYTES_FED > TEXT_MOST) {
            return NONE;
        }
        putBytes(a);
        putBytes(b);
        putBytes(c);
        putBytes(d);
        putBytes(e);
        return tapeLength;
    }

    public int plan(int n) throws IllegalArgumentException {
        if (n < 0 || n > tapeLength) {
            throw new IllegalArgumentException("the tape has not so many bytes");
        }
        int fault = parser.reads(tape, n, sparePlan);
        tapeLength = 0;
        if (fault != 0) {
            faultPlace = parser.faultPlace;
            scene.refused[REFUSED_TEXTS]++;
            return fault;
        }
        Plan told = sparePlan;
        sparePlan = plan;
        plan = told;
        faultPlace = NONE;
        hasImage = false;
        scene.begins(plan);
        return 0;
    }

    public int fault() {
        return faultPlace;
    }

    public int count(int what) throws NoSuchElementException {
        State state = scene.state;
        switch (what) {
            case 0: return plan.shotCount;
            case 1: return plan.day;
            case 2: return plan.move;
            case 3: return plan.cold;
            case 4: return plan.rules.count;
            case 5: return state.now;
            case 6: return state.place == INSIDE ? 1 : 0;
            case 7: return state.had;
            case 8: return state.film;
            case 9: return state.lamps ? 1 : 0;
            case 10: return state.silk ? 1 : 0;
            case 11: return state.waited;
            case 12: return Math.min(COLD_MOST, plan.cold * state.waited);
            case 13: return scene.actCount;
            case 14: return scene.seenCount;
            case 15: return tapeLength;
            case 16: return scene.refused[REFUSED_TEXTS];
            case 17: return scene.refused[REFUSED_ACTS];
            case 18: return scene.refused[REFUSED_SEEN];
            default: throw new NoSuchElementException("no such what");
        }
    }

    public int shot(int shot, int what) throws NoSuchElementException {
        requireShot(shot);
        Shot told = plan.shots[shot];
        switch (what) {
            case 0: return told.kind;
            case 1: return told.light;
            case 2: return told.length;
            case 3: return told.from;
            case 4: return told.to;
            case 5: return told.after;
            case 6: return scene.state.isHad(shot) ? 1 : 0;
            case 7: return scene.state.tries[shot];
            default: throw new NoSuchElementException("no such what");
        }
    }

    public int sky(int minute, int what) throws NoSuchElementException {
        requireMinute(minute);
        requireWhat(what, 1);
        if (what == 0) {
            return scene.state.sky.isSun(minute) ? 1 : 0;
        }
        lookAround();
        return outlook.left[minute];
    }

    public int why(int shot, int minute) throws NoSuchElementException {
        requireShot(shot);
        requireMinute(minute);
        lookAround();
        return outlook.hindrance(shot, minute);
    }

    public int ready(int minute) throws NoSuchElementException {
        requireMinute(minute);
        lookAround();
        int bits = 0;
        for (int shot = 0; shot < plan.shotCount; shot++) {
            if (outlook.hindrance(shot, minute) == 0) {
                bits |= 1 << shot;
            }
        }
        return bits;
    }

    public int edge(int minute) throws NoSuchElementException {
        requireMinute(minute);
        lookAround();
        int next = minute + outlook.left[minute];
        return next < plan.day ? next : NONE;
    }

    public int take(int shot) throws NoSuchElementException {
        requireShot(shot);
        State state = scene.state;
        lookAround();
        if (state.now >= plan.day || outlook.hindrance(shot, state.now) != 0) {
            return refuseAct();
        }
        scene.keepAct();
        return outlook.shoots(shot) ? 1 : 0;
    }

    public int await(int minutes) {
        State state = scene.state;
        if (minutes < 1 || minutes > WAIT_MOST || state.now + minutes > plan.day) {
            return refuseAct();
        }
        scene.keepAct();
        state.waits(minutes);
        return state.now;
    }

    public int move(boolean inside) {
        State state = scene.state;
        int place = inside ? INSIDE : OUT;
        if (state.place == place || state.now + plan.move > plan.day) {
            return refuseAct();
        }
        scene.keepAct();
        state.goesOver(plan.move);
        return state.now;
    }

    public boolean sets(int what, boolean on) throws NoSuchElementException {
        requireWhat(what, 1);
        State state = scene.state;
        boolean before = what == 0 ? state.lamps : state.silk;
        scene.keepAct();
        state.putOn(what, on);
        return before;
    }

    public int clouds(int from, int to, boolean sun) {
        if (!plan.isMinute(from) || !plan.isMinute(to) || to < from) {
            return refuseAct();
        }
        scene.keepAct();
        return scene.state.sky.paint(from, to, sun);
    }

    public int undo() {
        return scene.goesBack() ? scene.actCount : NONE;
    }

    public int day(int rule, int what) throws NoSuchElementException {
        requireRule(rule);
        requireWhat(what, 4);
        run.runs(plan, scene.state, rule);
        switch (what) {
            case 0: return Integer.bitCount(run.hadSet);
            case 1: return run.film;
            case 2: return run.spoilt;
            case 3: return run.lastEnd;
            default: return run.hadSet;
        }
    }

    public int best() {
        return bestRule();
    }

    public int most(int what) throws NoSuchElementException {
        requireWhat(what, 2);
        findMost(scene.state, plan.day);
        switch (what) {
            case 0: return search.mostCount;
            case 1: return search.mostEnd;
            default: return search.mostSet;
        }
    }

    public int order(int i) throws NoSuchElementException {
        findMost(scene.state, plan.day);
        if (i < 0 || i >= search.mostCount) {
            throw new NoSuchElementException("the order is not so long");
        }
        search.ordersMost();
        return search.row[i];
    }

    public int soonest(int set) throws IllegalArgumentException {
        int all = (1 << plan.shotCount) - 1;
        if ((set & ~all) != 0 || (set & scene.state.had) != 0) {
            throw new IllegalArgumentException("bits of shots that there are not, or that are had");
        }
        search.prepares(plan, scene.state, plan.day);
        search.spreads(set);
        return search.endOf(set);
    }

    public int inside() {
        State state = scene.state;
        int shots = plan.shotsAt(INSIDE) & ~state.had;
        if (state.place == INSIDE || shots == 0) {
            return NONE;
        }
        search.prepares(plan, state, plan.day);
        int latest = search.latestFor(shots, INSIDE, plan.day);
        if (latest == NONE || latest - plan.move < state.now) {
            return NONE;
        }
        return latest - plan.move;
    }

    public int worth(int what) throws NoSuchElementException {
        requireWhat(what, 1);
        trialState.copyFrom(scene.state);
        trialState.putOn(what, true);
        findMost(trialState, plan.day);
        int with = search.mostCount;
        trialState.putOn(what, false);
        findMost(trialState, plan.day);
        return with - search.mostCount;
    }

    public int chances(int shot, int what) throws NoSuchElementException {
        requireShot(shot);
        requireWhat(what, 1);
        lookAround();
        int many = 0;
        int first = NONE;
        for (int minute = scene.state.now; minute < plan.day; minute++) {
            if (outlook.wouldBeHad(plan.shots[shot], minute)) {
                many++;
                if (first == NONE) {
                    first = minute;
                }
            }
        }
        return what == 0 ? many : first;
    }

    public int without(int shot) throws NoSuchElementException {
        requireShot(shot);
        findMost(scene.state, plan.day);
        int most = search.mostCount;
        search.spreads(search.open & ~(1 << shot));
        search.picksMost();
        return most - search.mostCount;
    }

    public int shorter(int minutes) throws IllegalArgumentException {
        if (minutes < 0 || minutes > MINUTES_MOST) {
            throw new IllegalArgumentException("minutes are 0 to 480");
        }
        findMost(scene.state, Math.max(scene.state.now, plan.day - minutes));
        return search.mostCount;
    }

    public int idle(int rule, int what) throws NoSuchElementException {
        requireRule(rule);
        requireWhat(what, 1);
        run.runs(plan, scene.state, rule);
        return what == 0 ? run.idleMinutes : run.moves;
    }

    public int regret() {
        run.runs(plan, scene.state, bestRule());
        findMost(scene.state, plan.day);
        return search.mostCount - Integer.bitCount(run.hadSet);
    }

    public int holes(int minutes) throws IllegalArgumentException {
        if (minutes < 1 || minutes > MINUTES_MOST) {
            throw new IllegalArgumentException("minutes are 1 to 480");
        }
        lookAround();
        int many = 0;
        for (int minute = 0; minute < plan.day; minute++) {
            if (outlook.beginsHole(minute) && outlook.left[minute] >= minutes) {
                many++;
            }
        }
        return many;
    }

    public int hole(int what) throws NoSuchElementException {
        requireWhat(what, 3);
        lookAround();
        int many = 0;
        int sum = 0;
        int longest = 0;
        int first = NONE;
        for (int minute = 0; minute < plan.day; minute++) {
            if (outlook.beginsHole(minute)) {
                int length = outlook.left[minute];
                many++;
                sum += length;
                if (length > longest) {
                    longest = length;
                    first = minute;
                }
            }
        }
        switch (what) {
            case 0: return many == 0 ? 0 : (int) lowered(sum, sum, many);
            case 1: return many == 0 ? 1 : (int) lowered(many, sum, many);
            case 2: return longest;
            default: return first;
        }
    }

    public long lasts(int tenths, int minutes, int what) throws NoSuchElementException, IllegalArgumentException {
        requireWhat(what, 1);
        requireTry(tenths, minutes);
        long upper = power(tenths, minutes);
        long lower = power(10, minutes);
        return lowered(what == 0 ? upper : lower, upper, lower);
    }

    public long trial(int tenths, int minutes, int worth, int film) throws IllegalArgumentException {
        requireTry(tenths, minutes);
        if (worth < 0 || worth > 999 || film < 0 || film > 99) {
            throw new IllegalArgumentException("worth is 0 to 999, film 0 to 99");
        }
        long mean = power(tenths, minutes) * (worth - film * minutes);
        for (int last = 1; last <= minutes; last++) {
            // It went on last - 1 times and then no more; the minutes behind are free.
            long ways = power(tenths, last - 1) * (10 - tenths) * power(10, minutes - last);
            mean -= ways * film * last;
        }
        return mean;
    }

    public int see(int shot, int minute, boolean had) throws NoSuchElementException {
        requireShot(shot);
        if (minute < 0 || minute >= MINUTES_MOST || scene.seenCount >= SEEN_MOST) {
            scene.refused[REFUSED_SEEN]++;
            return NONE;
        }
        scene.keepSeen(shot, minute, had);
        return scene.seenCount;
    }

    public int which() {
        int bits = 0;
        for (int rule = 0; rule < plan.rules.count; rule++) {
            if (agreesWithSeen(rule)) {
                bits |= 1 << rule;
            }
        }
        return agreesWithSeen(NONE) ? bits | 1 << RULES_MOST : bits;
    }

    public void forget() {
        scene.seenCount = 0;
    }

    public int week(int rule, int seed, int n, int what) throws NoSuchElementException, IllegalArgumentException {
        requireRule(rule);
        requireWhat(what, 2);
        if (n < 0 || n > DAYS_MOST) {
            throw new IllegalArgumentException("days are 0 to 10");
        }
        int shots = 0;
        int fewest = n == 0 ? 0 : SHOTS_MOST;
        int film = 0;
        int drawn = seed;
        trialState.copyFrom(scene.state);
        for (int i = 0; i < n; i++) {
            drawn = paintsBySeed(trialState.sky, trialState.now, drawn);
            run.runs(plan, trialState, rule);
            int had = Integer.bitCount(run.hadSet);
            shots += had;
            fewest = Math.min(fewest, had);
            film += run.film;
        }
        switch (what) {
            case 0: return shots;
            case 1: return fewest;
            default: return film;
        }
    }

    public void image() {
        imageKept.copyFrom(scene);
        hasImage = true;
    }

    public boolean restore() {
        if (hasImage) {
            scene.copyFrom(imageKept);
        }
        return hasImage;
    }

    private void putBytes(int number) {
        for (int shift = 24; shift >= 0 && tapeLength < TEXT_MOST; shift -= 8) {
            tape[tapeLength] = (byte) (number >>> shift);
            tapeLength++;
        }
    }

    private void requireShot(int shot) {
        if (!plan.isShot(shot)) {
            throw new NoSuchElementException("no such shot");
        }
    }

    private void requireMinute(int minute) {
        if (!plan.isMinute(minute)) {
            throw new NoSuchElementException("no such minute of the day");
        }
    }

    private void requireRule(int rule) {
        if (rule < NONE || rule >= plan.rules.count) {
            throw new NoSuchElementException("no such rule");
        }
    }

    private static void requireWhat(int what, int last) {
        if (what < 0 || what > last) {
            throw new NoSuchElementException("no such what");
        }
    }

    private static void requireTry(int tenths, int minutes) {
        if (tenths < 0 || tenths > 10 || minutes < 1 || minutes > 9) {
            throw new IllegalArgumentException("tenths are 0 to 10, minutes 1 to 9");
        }
    }

    private int refuseAct() {
        scene.refused[REFUSED_ACTS]++;
        return NONE;
    }

    private void lookAround() {
        outlook.looks(plan, scene.state, plan.day);
    }

    private void findMost(State state, int day) {
        search.prepares(plan, state, day);
        search.spreads(search.open);
        search.picksMost();
    }

    /** By none stands ahead of the rules, so a rule has to be better than what was found before it. */
    private int bestRule() {
        int best = NONE;
        int bestHad = NONE;
        int bestFilm = 0;
        for (int rule = NONE; rule < plan.rules.count; rule++) {
            run.runs(plan, scene.state, rule);
            int had = Integer.bitCount(run.hadSet);
            if (had > bestHad || had == bestHad && run.film < bestFilm) {
                best = rule;
                bestHad = had;
                bestFilm = run.film;
            }
        }
        return best;
    }

    private boolean agreesWithSeen(int rule) {
        run.runs(plan, scene.state, rule);
        for (int i = 0; i < scene.seenCount; i++) {
            int shot = scene.seenShots[i];
            boolean had = scene.state.isHad(shot) || run.isHadBy(shot, scene.seenMinutes[i]);
            if (had != scene.seenHad[i]) {
                return false;
            }
        }
        return true;
    }

    /** Another sky from a minute on; answers what the seed has become. */
    private int paintsBySeed(Sky sky, int from, int seed) {
        int drawn = nextSeed(seed);
        int parts = drawOf(drawn, 16);
        sky.paint(from, MINUTES_MOST - 1, false);
        int minute = from;
        for (int part = 0; part < parts; part++) {
            drawn = nextSeed(drawn);
            int end = minute + drawOf(drawn, 30) + 1;
            boolean sun = (part & 1) == 1;
            if (sun) {
                sky.paint(minute, end - 1, true);
            }
            minute = end;
        }
        return drawn;
    }

    private static int nextSeed(int seed) {
        return seed * 1103515245 + 12345;
    }

    private static int drawOf(int seed, int n) {
        return n > 0 ? (seed >>> 16 & 32767) % n : 0;
    }

    private static long power(int base, int times) {
        long result = 1;
        for (int i = 0; i < times; i++) {
            result *= base;
        }
        return result;
    }

    /** A part of the fraction upper / lower as it is in lowest terms. */
    private static long lowered(long part, long upper, long lower) {
        long a = upper;
        long b = lower;
        for (int i = 0; i < 100 && b != 0; i++) {
            long rest = a % b;
            a = b;
            b = rest;
        }
        return a == 0 ? part : part / a;
    }

    /** Sun or cloud in each minute, a bit each. */
    private static final class Sky {
        private static final int WORDS = MINUTES_MOST / 32;

        final int[] sun = new int[WORDS];

        void copyFrom(Sky other) {
            System.arraycopy(other.sun, 0, sun, 0, WORDS);
        }

        void clears() {
            for (int i = 0; i < WORDS; i++) {
                sun[i] = 0;
            }
        }

        boolean isSun(int minute) {
            if (minute < 0 || minute >= MINUTES_MOST) {
                return false;
            }
            return (sun[minute >> 5] >>> (minute & 31) & 1) == 1;
        }

        /** Answers how many minutes were otherwise. */
        int paint(int from, int to, boolean on) {
            int last = Math.min(to, MINUTES_MOST - 1);
            int changed = 0;
            for (int minute = Math.max(from, 0); minute <= last; minute++) {
                if (isSun(minute) != on) {
                    sun[minute >> 5] ^= 1 << (minute & 31);
                    changed++;
                }
            }
            return changed;
        }
    }

    /** A shot as the plan tells it. */
    private static final class Shot {
        int kind = KIND_WIDE;
        int light = LIGHT_ANY;
        int length = 1;
        int from = 0;
        int to = 0;
        int after = NONE;

        int place() {
            return kind == KIND_INSIDE ? INSIDE : OUT;
        }
    }

    /** What a text tells. */
    private static final class Plan {
        private static final int DAY_WITHOUT = 240;
        private static final int MOVE_WITHOUT = 50;
        private static final int COLD_WITHOUT = 1;

        int day = DAY_WITHOUT;
        int move = MOVE_WITHOUT;
        int cold = COLD_WITHOUT;
        int shotCount = 0;
        int partCount = 0;
        int minutesTold = 0;
        final Shot[] shots = new Shot[SHOTS_MOST];
        final Sky sky = new Sky();
        final Rules rules = new Rules();

        Plan() {
            for (int i = 0; i < SHOTS_MOST; i++) {
                shots[i] = new Shot();
            }
        }

        void clears() {
            day = DAY_WITHOUT;
            move = MOVE_WITHOUT;
            cold = COLD_WITHOUT;
            shotCount = 0;
            partCount = 0;
            minutesTold = 0;
            sky.clears();
            rules.clears();
        }

        boolean isShot(int shot) {
            return shot >= 0 && shot < shotCount;
        }

        boolean isMinute(int minute) {
            return minute >= 0 && minute < day;
        }

        int shotsAt(int place) {
            int bits = 0;
            for (int shot = 0; shot < shotCount; shot++) {
                if (shots[shot].place() == place) {
                    bits |= 1 << shot;
                }
            }
            return bits;
        }

        void addPart(boolean sun, int minutes) {
            sky.paint(minutesTold, minutesTold + minutes - 1, sun);
            minutesTold += minutes;
            partCount++;
        }

        /** The next shot's place to be filled; the caller has looked that there is room. */
        Shot addShot() {
            Shot next = shots[Math.min(shotCount, SHOTS_MOST - 1)];
            shotCount = Math.min(shotCount + 1, SHOTS_MOST);
            return next;
        }
    }

    /** The rules of a plan, one behind the other, with each sign behind what it joins. */
    private static final class Rules {
        static final int VALUES = 8;
        static final int VALUE_LENGTH = 0;
        static final int VALUE_KIND = 1;
        static final int VALUE_LIGHT = 2;
        static final int VALUE_LEFT = 3;
        static final int VALUE_UNTIL = 4;
        static final int VALUE_HOUR = 5;
        static final int VALUE_WAITED = 6;
        static final int VALUE_TRIES = 7;

        /** Numbers of a text are 0 to 9999: what is below 0 is free for values and signs. */
        static final int FIRST_VALUE = -1;
        static final int OR = -11;
        static final int AND = -12;
        static final int NOT = -13;
        static final int LESS = -14;
        static final int EQUAL = -15;
        static final int PLUS = -16;
        static final int MINUS = -17;
        static final int TIMES = -18;
        static final int BY = -19;

        /** Five signs may wait for their right side in each of 6 expressions within one another. */
        private static final int STACK_MOST = 40;

        int count = 0;
        private final int[] code = new int[TEXT_MOST];
        private int codeLength = 0;
        private final int[] ends = new int[RULES_MOST];
        private final int[] stack = new int[STACK_MOST];
        private int height = 0;

        void clears() {
            count = 0;
            codeLength = 0;
        }

        void emits(int step) {
            if (codeLength < TEXT_MOST) {
                code[codeLength] = step;
                codeLength++;
            }
        }

        void endsRule() {
            if (count < RULES_MOST) {
                ends[count] = codeLength;
                count++;
            }
        }

        int gives(int rule, int[] values) {
            if (rule < 0 || rule >= count) {
                return 0;
            }
            height = 0;
            int end = ends[rule];
            for (int i = rule == 0 ? 0 : ends[rule - 1]; i < end; i++) {
                int step = code[i];
                if (step >= 0) {
                    pushes(step);
                } else if (step > OR) {
                    int value = FIRST_VALUE - step;
                    pushes(value < VALUES ? values[value] : 0);
                } else if (step == NOT) {
                    pushes(pops() == 0 ? 1 : 0);
                } else {
                    int right = pops();
                    int left = pops();
                    pushes(joined(step, left, right));
                }
            }
            return pops();
        }

        private void pushes(int value) {
            if (height < STACK_MOST) {
                stack[height] = value;
                height++;
            }
        }

        private int pops() {
            if (height == 0) {
                return 0;
            }
            height--;
            return stack[height];
        }

        private static int joined(int step, int left, int right) {
            switch (step) {
                case OR: return left != 0 || right != 0 ? 1 : 0;
                case AND: return left != 0 && right != 0 ? 1 : 0;
                case LESS: return left < right ? 1 : 0;
                case EQUAL: return left == right ? 1 : 0;
                case PLUS: return left + right;
                case MINUS: return left - right;
                case TIMES: return left * right;
                default: return right == 0 ? 0 : left / right;
            }
        }
    }

    /** A text's tokens, one at a time. */
    private static final class Tokens {
        static final int END = 0;
        static final int WORD = 1;
        static final int NUMBER = 2;
        static final int SIGN = 3;
        static final int NO_TOKEN = 4;

        private static final String SIGNS = ";()+-*/<=";
        private static final int DIGITS_MOST = 4;

        int kind = END;
        /** The token's first byte; the text's length at its end. */
        int place = 0;
        private final byte[] text = new byte[TEXT_MOST];
        private int length = 0;
        private int behind = 0;

        void begins(byte[] bytes, int many) {
            length = Math.max(0, Math.min(many, Math.min(bytes.length, TEXT_MOST)));
            System.arraycopy(bytes, 0, text, 0, length);
            behind = 0;
            advances();
        }

        void advances() {
            place = behind;
            while (place < length && (text[place] == 32 || text[place] == 10)) {
                place++;
            }
            kind = place < length ? kindOf(text[place]) : END;
            behind = Math.min(place + 1, length);
            if (kind == WORD || kind == NUMBER) {
                while (behind < length && kindOf(text[behind]) == kind) {
                    behind++;
                }
            }
        }

        private static int kindOf(byte sign) {
            if (sign >= 'a' && sign <= 'z') {
                return WORD;
            }
            if (sign >= '0' && sign <= '9') {
                return NUMBER;
            }
            return SIGNS.indexOf((char) (sign & 255)) >= 0 ? SIGN : NO_TOKEN;
        }

        boolean isTooLong() {
            return behind - place > DIGITS_MOST;
        }

        /** A number's worth, if it is not too long. */
        int number() {
            int number = 0;
            for (int i = place; i < behind && i < place + DIGITS_MOST; i++) {
                number = number * 10 + text[i] - '0';
            }
            return number;
        }

        boolean isSign(char sign) {
            return kind == SIGN && text[place] == sign;
        }

        boolean isWord(String word) {
            return kind == WORD && matches(word, 0, word.length());
        }

        /** The word's place in a list of words, a blank behind each; NONE: it is none of these. */
        int indexIn(String words) {
            if (kind != WORD) {
                return NONE;
            }
            int index = 0;
            int start = 0;
            for (int i = 0; i < words.length(); i++) {
                if (words.charAt(i) == ' ') {
                    if (matches(words, start, i)) {
                        return index;
                    }
                    index++;
                    start = i + 1;
                }
            }
            return NONE;
        }

        private boolean matches(String words, int start, int end) {
            if (end - start != behind - place) {
                return false;
            }
            for (int i = start; i < end; i++) {
                if (words.charAt(i) != text[place + i - start]) {
                    return false;
                }
            }
            return true;
        }
    }

    /** Reads a text into a plan, or finds its first fault. */
    private static final class Parser {
        private static final int FAULT_STANDS_WRONG = 1;
        private static final int FAULT_TOO_MUCH = 2;
        private static final int FAULT_UNKNOWN = 3;
        private static final int FAULT_SECOND = 4;

        private static final String LINE_WORDS = "sun cloud wide near inside day move cold rule ";
        private static final int LINE_SUN = 0;
        private static final int LINE_CLOUD = 1;
        private static final int LINE_WIDE = 2;
        private static final int LINE_NEAR = 3;
        private static final int LINE_INSIDE = 4;
        private static final int LINE_DAY = 5;
        private static final int LINE_MOVE = 6;
        private static final int LINE_COLD = 7;
        private static final int LINE_RULE = 8;

        private static final String VALUE_WORDS = "length kind light left until hour waited tries ";

        private static final int EXPR_DEPTH_MOST = 6;
        private static final int NOTS_MOST = 6;

        int faultPlace = NONE;
        private int fault = 0;
        private final Tokens tokens = new Tokens();
        private Plan into;
        private boolean hasDay = false;
        private boolean hasMove = false;
        private boolean hasCold = false;

        Parser(Plan plan) {
            into = plan;
        }

        /** 0, or the fault; the plan is good only without one. */
        int reads(byte[] text, int length, Plan told) {
            into = told;
            into.clears();
            hasDay = false;
            hasMove = false;
            hasCold = false;
            fault = 0;
            faultPlace = NONE;
            tokens.begins(text, length);
            try {
                readsLines();
            } catch (IllegalArgumentException refusal) {
                return fault;
            }
            return 0;
        }

        private void refuses(int found) {
            fault = found;
            faultPlace = tokens.place;
            throw new IllegalArgumentException("the text has a fault");
        }

        private void readsLines() {
            for (int i = 0; i < TEXT_MOST && tokens.kind != Tokens.END; i++) {
                readsLine();
                if (!tokens.isSign(';')) {
                    refuses(FAULT_STANDS_WRONG);
                }
                tokens.advances();
            }
        }

        private void readsLine() {
            int word = tokens.indexIn(LINE_WORDS);
            switch (word) {
                case LINE_SUN:
                case LINE_CLOUD:
                    readsPart(word == LINE_SUN);
                    break;
                case LINE_WIDE:
                case LINE_NEAR:
                case LINE_INSIDE:
                    readsShot(word - LINE_WIDE);
                    break;
                case LINE_DAY:
                    into.day = readsOnce(hasDay, 10, MINUTES_MOST);
                    hasDay = true;
                    break;
                case LINE_MOVE:
                    into.move = readsOnce(hasMove, 0, 120);
                    hasMove = true;
                    break;
                case LINE_COLD:
                    into.cold = readsOnce(hasCold, 0, 9);
                    hasCold = true;
                    break;
                case LINE_RULE:
                    readsRule();
                    break;
                default:
                    refuses(FAULT_STANDS_WRONG);
            }
        }

        private void readsPart(boolean sun) {
            if (into.partCount >= PARTS_MOST) {
                refuses(FAULT_TOO_MUCH);
            }
            tokens.advances();
            into.addPart(sun, readsNumber(1, MINUTES_MOST));
        }

        private void readsShot(int kind) {
            int ahead = into.shotCount;
            if (ahead >= SHOTS_MOST) {
                refuses(FAULT_TOO_MUCH);
            }
            tokens.advances();
            Shot shot = into.addShot();
            shot.kind = kind;
            shot.light = readsNumber(LIGHT_ANY, LIGHT_CLOUD);
            shot.length = readsNumber(1, 30);
            shot.from = readsNumber(0, MINUTES_MOST);
            shot.to = readsNumber(shot.from, MINUTES_MOST);
            shot.after = NONE;
            if (tokens.isWord("after")) {
                tokens.advances();
                shot.after = readsEarlierShot(ahead);
            }
        }

        private int readsOnce(boolean isTold, int least, int most) {
            if (isTold) {
                refuses(FAULT_SECOND);
            }
            tokens.advances();
            return readsNumber(least, most);
        }

        private int readsNumber(int least, int most) {
            int number = lookAtNumber();
            if (number < least || number > most) {
                refuses(FAULT_TOO_MUCH);
            }
            tokens.advances();
            return number;
        }

        private int readsEarlierShot(int ahead) {
            int number = lookAtNumber();
            if (number >= ahead) {
                refuses(FAULT_UNKNOWN);
            }
            tokens.advances();
            return number;
        }

        private int lookAtNumber() {
            if (tokens.kind != Tokens.NUMBER) {
                refuses(FAULT_STANDS_WRONG);
            }
            if (tokens.isTooLong()) {
                refuses(FAULT_TOO_MUCH);
            }
            return tokens.number();
        }

        private void readsRule() {
            if (into.rules.count >= RULES_MOST) {
                refuses(FAULT_TOO_MUCH);
            }
            tokens.advances();
            readsExpr(0);
            into.rules.endsRule();
        }

        private void readsExpr(int depth) {
            if (depth >= EXPR_DEPTH_MOST) {
                refuses(beginsPart() ? FAULT_TOO_MUCH : FAULT_STANDS_WRONG);
            }
            readsAnd(depth);
            for (int i = 0; i < TEXT_MOST && tokens.isWord("or"); i++) {
                tokens.advances();
                readsAnd(depth);
                into.rules.emits(Rules.OR);
            }
        }

        private boolean beginsPart() {
            return tokens.kind == Tokens.NUMBER || tokens.kind == Tokens.WORD || tokens.isSign('(');
        }

        private void readsAnd(int depth) {
            readsNot(depth);
            for (int i = 0; i < TEXT_MOST && tokens.isWord("and"); i++) {
                tokens.advances();
                readsNot(depth);
                into.rules.emits(Rules.AND);
            }
        }

        private void readsNot(int depth) {
            int nots = 0;
            while (nots < NOTS_MOST && tokens.isWord("not")) {
                tokens.advances();
                nots++;
            }
            if (nots == NOTS_MOST && tokens.isWord("not")) {
                refuses(FAULT_TOO_MUCH);
            }
            readsTest(depth);
            for (int i = 0; i < nots; i++) {
                into.rules.emits(Rules.NOT);
            }
        }

        private void readsTest(int depth) {
            readsSum(depth);
            boolean isLess = tokens.isSign('<');
            if (isLess || tokens.isSign('=')) {
                tokens.advances();
                readsSum(depth);
                into.rules.emits(isLess ? Rules.LESS : Rules.EQUAL);
            }
        }

        private void readsSum(int depth) {
            readsProduct(depth);
            for (int i = 0; i < TEXT_MOST && (tokens.isSign('+') || tokens.isSign('-')); i++) {
                int step = tokens.isSign('+') ? Rules.PLUS : Rules.MINUS;
                tokens.advances();
                readsProduct(depth);
                into.rules.emits(step);
            }
        }

        private void readsProduct(int depth) {
            readsOperand(depth);
            for (int i = 0; i < TEXT_MOST && (tokens.isSign('*') || tokens.isSign('/')); i++) {
                int step = tokens.isSign('*') ? Rules.TIMES : Rules.BY;
                tokens.advances();
                readsOperand(depth);
                into.rules.emits(step);
            }
        }

        private void readsOperand(int depth) {
            if (tokens.kind == Tokens.WORD) {
                int value = tokens.indexIn(VALUE_WORDS);
                if (value == NONE) {
                    refuses(FAULT_UNKNOWN);
                }
                into.rules.emits(Rules.FIRST_VALUE - value);
            } else if (tokens.isSign('(')) {
                tokens.advances();
                readsExpr(depth + 1);
                if (!tokens.isSign(')')) {
                    refuses(FAULT_STANDS_WRONG);
                }
            } else {
                into.rules.emits(lookAtNumber());
            }
            tokens.advances();
        }
    }

    /** How far the day is: all that acts change. */
    private static final class State {
        int now = 0;
        int place = OUT;
        int had = 0;
        int film = 0;
        int waited = 0;
        boolean lamps = false;
        boolean silk = false;
        final int[] tries = new int[SHOTS_MOST];
        final Sky sky = new Sky();

        void begins(Sky told) {
            now = 0;
            place = OUT;
            had = 0;
            film = 0;
            waited = 0;
            lamps = false;
            silk = false;
            for (int i = 0; i < SHOTS_MOST; i++) {
                tries[i] = 0;
            }
            sky.copyFrom(told);
        }

        void copyFrom(State other) {
            now = other.now;
            place = other.place;
            had = other.had;
            film = other.film;
            waited = other.waited;
            lamps = other.lamps;
            silk = other.silk;
            System.arraycopy(other.tries, 0, tries, 0, SHOTS_MOST);
            sky.copyFrom(other.sky);
        }

        boolean isHad(int shot) {
            return (had >> shot & 1) == 1;
        }

        void waits(int minutes) {
            now += minutes;
            waited += minutes;
        }

        void goesOver(int minutes) {
            place = place == OUT ? INSIDE : OUT;
            now += minutes;
            waited = 0;
        }

        /** 0: the lamps, else the silk. */
        void putOn(int what, boolean on) {
            if (what == 0) {
                lamps = on;
            } else {
                silk = on;
            }
        }
    }

    /** All that an image keeps. */
    private static final class Scene {
        final State state = new State();
        /** The states ahead of the acts that are kept, the oldest first. */
        private final State[] before = new State[ACTS_MOST];
        int actCount = 0;
        final int[] seenShots = new int[SEEN_MOST];
        final int[] seenMinutes = new int[SEEN_MOST];
        final boolean[] seenHad = new boolean[SEEN_MOST];
        int seenCount = 0;
        final int[] refused = new int[3];

        Scene() {
            for (int i = 0; i < ACTS_MOST; i++) {
                before[i] = new State();
            }
        }

        /** What was refused is counted over all plans. */
        void begins(Plan plan) {
            state.begins(plan.sky);
            actCount = 0;
            seenCount = 0;
        }

        void copyFrom(Scene other) {
            state.copyFrom(other.state);
            actCount = other.actCount;
            for (int i = 0; i < actCount; i++) {
                before[i].copyFrom(other.before[i]);
            }
            seenCount = other.seenCount;
            for (int i = 0; i < seenCount; i++) {
                seenShots[i] = other.seenShots[i];
                seenMinutes[i] = other.seenMinutes[i];
                seenHad[i] = other.seenHad[i];
            }
            System.arraycopy(other.refused, 0, refused, 0, refused.length);
        }

        void keepAct() {
            if (actCount == ACTS_MOST) {
                dropOldestAct();
            }
            before[actCount].copyFrom(state);
            actCount++;
        }

        private void dropOldestAct() {
            State oldest = before[0];
            for (int i = 1; i < ACTS_MOST; i++) {
                before[i - 1] = before[i];
            }
            before[ACTS_MOST - 1] = oldest;
            actCount = ACTS_MOST - 1;
        }

        boolean goesBack() {
            if (actCount == 0) {
                return false;
            }
            actCount--;
            state.copyFrom(before[actCount]);
            return true;
        }

        void keepSeen(int shot, int minute, boolean had) {
            if (seenCount < SEEN_MOST) {
                seenShots[seenCount] = shot;
                seenMinutes[seenCount] = minute;
                seenHad[seenCount] = had;
                seenCount++;
            }
        }
    }

    /** The light of a day that ends at a told minute, and what can be begun in it. */
    private static final class Outlook {
        /** For how many minutes of the day the sky stays as it is in each. */
        final int[] left = new int[MINUTES_MOST + 1];
        /** The sky's light in each minute of the day. */
        private final int[] light = new int[MINUTES_MOST];
        private Plan plan;
        private State state;
        private int day = 0;

        Outlook(Plan told, State now) {
            plan = told;
            state = now;
        }

        void looks(Plan told, State now, int dayEnd) {
            plan = told;
            state = now;
            day = Math.max(0, Math.min(dayEnd, MINUTES_MOST));
            left[day] = 0;
            int next = LIGHT_ANY;
            for (int minute = day - 1; minute >= 0; minute--) {
                light[minute] = now.sky.isSun(minute) ? LIGHT_SUN : LIGHT_CLOUD;
                left[minute] = light[minute] == next ? left[minute + 1] + 1 : 1;
                next = light[minute];
            }
        }

        /** A part of sun, as long as can be, begins in a minute of the day. */
        boolean beginsHole(int minute) {
            return light[minute] == LIGHT_SUN && (minute == 0 || light[minute - 1] == LIGHT_CLOUD);
        }

        /** Why a shot can't be begun, by what is had, by the place, by the minute; 0: it can. */
        int hindrance(int shot, int minute) {
            Shot told = plan.shots[shot];
            if (state.isHad(shot)) {
                return 1;
            }
            if (told.after != NONE && !state.isHad(told.after)) {
                return 2;
            }
            if (told.place() != state.place) {
                return 3;
            }
            return hindranceOfMinute(told, minute);
        }

        int hindranceOfMinute(Shot told, int minute) {
            if (minute < told.from || minute > told.to) {
                return 4;
            }
            if (told.light != LIGHT_ANY && told.kind != KIND_INSIDE && lightOf(told, minute) != told.light) {
                return 5;
            }
            return minute + told.length > day ? 6 : 0;
        }

        private int lightOf(Shot told, int minute) {
            if (told.kind == KIND_NEAR && state.lamps) {
                return LIGHT_SUN;
            }
            if (told.kind == KIND_NEAR && state.silk) {
                return LIGHT_CLOUD;
            }
            return light[minute];
        }

        /** An edge of the sky spoils only what has its light from the sky. */
        private boolean hasSkyLight(Shot told) {
            return told.kind == KIND_WIDE || told.kind == KIND_NEAR && !state.lamps && !state.silk;
        }

        private boolean isSpoiltFrom(Shot told, int minute) {
            return hasSkyLight(told) && left[minute] < told.length;
        }

        boolean wouldBeHad(Shot told, int minute) {
            return hindranceOfMinute(told, minute) == 0 && !isSpoiltFrom(told, minute);
        }

        /** Takes a shot that can be begun now; answers whether it is had. */
        boolean shoots(int shot) {
            Shot told = plan.shots[shot];
            boolean isSpoilt = isSpoiltFrom(told, state.now);
            int minutes = isSpoilt ? left[state.now] + 1 : told.length;
            state.now += minutes;
            state.film += minutes;
            state.waited = 0;
            if (isSpoilt) {
                state.tries[shot]++;
            } else {
                state.had |= 1 << shot;
            }
            return !isSpoilt;
        }
    }

    /** A day by a rule. */
    private static final class DayRun {
        /** A day's minutes, and moves that may take none: at most one more than there are shots. */
        private static final int STEPS_MOST = 1000;

        int hadSet = 0;
        int film = 0;
        int spoilt = 0;
        int lastEnd = NONE;
        int idleMinutes = 0;
        int moves = 0;
        private final int[] ends = new int[SHOTS_MOST];
        private final int[] values = new int[Rules.VALUES];
        private final State state = new State();
        private final Outlook outlook;
        private Plan plan;
        /** Shots that are not had and wait for none, where all are and where they are not. */
        private int openHere = 0;
        private int openThere = 0;

        DayRun(Plan told) {
            plan = told;
            outlook = new Outlook(told, state);
        }

        void runs(Plan told, State start, int rule) {
            plan = told;
            state.copyFrom(start);
            outlook.looks(told, state, told.day);
            clears();
            findOpen();
            for (int step = 0; step < STEPS_MOST && state.now < plan.day; step++) {
                int shot = chosen(rule);
                if (shot != NONE) {
                    shoots(shot);
                } else if (openHere == 0 && openThere != 0 && state.now + plan.move < plan.day) {
                    state.goesOver(plan.move);
                    moves++;
                    findOpen();
                } else {
                    state.waits(1);
                    idleMinutes++;
                }
            }
            film = state.film - start.film;
        }

        /** By the end of a minute, in this day. */
        boolean isHadBy(int shot, int minute) {
            return (hadSet >> shot & 1) == 1 && ends[shot] <= minute + 1;
        }

        private void clears() {
            hadSet = 0;
            spoilt = 0;
            lastEnd = NONE;
            idleMinutes = 0;
            moves = 0;
        }

        private void findOpen() {
            openHere = 0;
            openThere = 0;
            for (int shot = 0; shot < plan.shotCount; shot++) {
                Shot told = plan.shots[shot];
                if (!state.isHad(shot) && (told.after == NONE || state.isHad(told.after))) {
                    if (told.place() == state.place) {
                        openHere |= 1 << shot;
                    } else {
                        openThere |= 1 << shot;
                    }
                }
            }
        }

        private int chosen(int rule) {
            int best = NONE;
            int most = 0;
            for (int shot = 0; shot < plan.shotCount; shot++) {
                boolean isOpen = (openHere >> shot & 1) == 1;
                if (isOpen && outlook.hindranceOfMinute(plan.shots[shot], state.now) == 0) {
                    if (rule == NONE) {
                        return shot;
                    }
                    int given = givenBy(rule, shot);
                    if (given > most) {
                        best = shot;
                        most = given;
                    }
                }
            }
            return best;
        }

        private int givenBy(int rule, int shot) {
            Shot told = plan.shots[shot];
            values[Rules.VALUE_LENGTH] = told.length;
            values[Rules.VALUE_KIND] = told.kind;
            values[Rules.VALUE_LIGHT] = told.light;
            values[Rules.VALUE_LEFT] = outlook.left[state.now];
            values[Rules.VALUE_UNTIL] = told.to - state.now + 1;
            values[Rules.VALUE_HOUR] = state.now / 60;
            values[Rules.VALUE_WAITED] = state.waited;
            values[Rules.VALUE_TRIES] = state.tries[shot];
            return plan.rules.gives(rule, values);
        }

        private void shoots(int shot) {
            if (outlook.shoots(shot)) {
                hadSet |= 1 << shot;
                ends[shot] = state.now;
                lastEnd = state.now;
                findOpen();
            } else {
                spoilt++;
            }
        }
    }

    /** What one can have who knows the sky. */
    private static final class Search {
        private static final int PLACES = 2;
        /** Far behind every day. */
        private static final int NEVER = 1000000;

        int open = 0;
        int mostCount = 0;
        int mostEnd = 0;
        int mostSet = 0;
        final int[] row = new int[SHOTS_MOST];
        private final Outlook outlook;
        private Plan plan;
        private State state;
        private int day = 0;
        /** Of each shot the first minute, told one or later, in which it would be had. */
        private final int[][] firstChance = new int[SHOTS_MOST][MINUTES_MOST + 1];
        /** Of each shot the last minute, told one or earlier, in which it would be had. */
        private final int[][] lastChance = new int[SHOTS_MOST][MINUTES_MOST + 1];
        /** Of each set and place when one can be there at the soonest, all of the set being had. */
        private final int[] soonestEnd = new int[SETS * PLACES];
        /** Of each set and place when one must be there at the latest, all of the set to be had. */
        private final int[] latestStart = new int[SETS * PLACES];

        Search(Plan told, State now) {
            plan = told;
            state = now;
            outlook = new Outlook(told, now);
        }

        void prepares(Plan told, State now, int dayEnd) {
            plan = told;
            state = now;
            day = Math.max(0, Math.min(dayEnd, MINUTES_MOST));
            open = ((1 << told.shotCount) - 1) & ~now.had;
            outlook.looks(told, now, day);
            for (int shot = 0; shot < told.shotCount; shot++) {
                findFirstChances(shot);
            }
        }

        private void findFirstChances(int shot) {
            int[] first = firstChance[shot];
            Shot told = plan.shots[shot];
            first[day] = NEVER;
            for (int minute = day - 1; minute >= 0; minute--) {
                first[minute] = outlook.wouldBeHad(told, minute) ? minute : first[minute + 1];
            }
        }

        private void findLastChances(int shot) {
            int[] last = lastChance[shot];
            Shot told = plan.shots[shot];
            int latest = NONE;
            for (int minute = 0; minute < day; minute++) {
                if (outlook.wouldBeHad(told, minute)) {
                    latest = minute;
                }
                last[minute] = latest;
            }
            last[day] = latest;
        }

        /** Finds of all sets of some shots by when they can be had. One who is earlier can wait. */
        void spreads(int some) {
            for (int i = 0; i < SETS * PLACES; i++) {
                soonestEnd[i] = NEVER;
            }
            soonestEnd[state.place] = state.now;
            for (int set = 0; set < SETS; set++) {
                if ((set & ~some) == 0) {
                    meetPlaces(set);
                    for (int shot = 0; shot < plan.shotCount; shot++) {
                        if ((some & ~set & 1 << shot) != 0 && isFree(shot, state.had | set)) {
                            spreadsBy(shot, set);
                        }
                    }
                }
            }
        }

        private void meetPlaces(int set) {
            int out = soonestEnd[set * PLACES + OUT];
            int inside = soonestEnd[set * PLACES + INSIDE];
            soonestEnd[set * PLACES + OUT] = Math.min(out, inside + plan.move);
            soonestEnd[set * PLACES + INSIDE] = Math.min(inside, out + plan.move);
        }

        private boolean isFree(int shot, int had) {
            int after = plan.shots[shot].after;
            return after == NONE || (had >> after & 1) == 1;
        }

        private void spreadsBy(int shot, int set) {
            int place = plan.shots[shot].place();
            int end = endFrom(shot, soonestEnd[set * PLACES + place]);
            int to = (set | 1 << shot) * PLACES + place;
            soonestEnd[to] = Math.min(soonestEnd[to], end);
        }

        /** When a shot is ended at the soonest that is begun at a time or later. */
        private int endFrom(int shot, int time) {
            if (time > day) {
                return NEVER;
            }
            int begin = firstChance[shot][time];
            return begin == NEVER ? NEVER : begin + plan.shots[shot].length;
        }

        int endOf(int set) {
            int end = Math.min(soonestEnd[set * PLACES + OUT], soonestEnd[set * PLACES + INSIDE]);
            return end > day ? NONE : end;
        }

        void picksMost() {
            mostCount = NONE;
            for (int set = 0; set < SETS; set++) {
                int end = endOf(set);
                int many = Integer.bitCount(set);
                if (end != NONE && (many > mostCount || many == mostCount && end < mostEnd)) {
                    mostCount = many;
                    mostEnd = end;
                    mostSet = set;
                }
            }
        }

        /** When one must be at a place at the latest to have all of a set by an end; NONE: never. */
        int latestFor(int all, int place, int end) {
            for (int shot = 0; shot < plan.shotCount; shot++) {
                findLastChances(shot);
            }
            latestStart[OUT] = end;
            latestStart[INSIDE] = end;
            for (int rest = 1; rest < SETS; rest++) {
                if ((rest & ~all) == 0) {
                    latestStart[rest * PLACES + OUT] = NONE;
                    latestStart[rest * PLACES + INSIDE] = NONE;
                    for (int shot = 0; shot < plan.shotCount; shot++) {
                        if ((rest & 1 << shot) != 0 && isFree(shot, ~rest)) {
                            beginsRestBy(shot, rest);
                        }
                    }
                }
            }
            return latestStart[all * PLACES + place];
        }

        private void beginsRestBy(int shot, int rest) {
            Shot told = plan.shots[shot];
            int place = told.place();
            int latest = latestStart[(rest & ~(1 << shot)) * PLACES + place] - told.length;
            if (latest < 0 || latest > day) {
                return;
            }
            int begin = lastChance[shot][latest];
            int here = rest * PLACES + place;
            int there = rest * PLACES + (place == OUT ? INSIDE : OUT);
            latestStart[here] = Math.max(latestStart[here], begin);
            latestStart[there] = Math.max(latestStart[there], Math.max(NONE, begin - plan.move));
        }

        /** The first row of the most's shots that is ended as soon; picksMost() has found these. */
        void ordersMost() {
            latestFor(mostSet, state.place, mostEnd);
            int rest = mostSet;
            int place = state.place;
            int time = state.now;
            for (int i = 0; i < mostCount && i < SHOTS_MOST; i++) {
                int shot = firstInTime(rest, place, time);
                if (shot == NONE) {
                    return;
                }
                Shot told = plan.shots[shot];
                time = endFrom(shot, time + (told.place() == place ? 0 : plan.move));
                place = told.place();
                rest &= ~(1 << shot);
                row[i] = shot;
            }
        }

        private int firstInTime(int rest, int place, int time) {
            for (int shot = 0; shot < plan.shotCount; shot++) {
                if ((rest & 1 << shot) != 0 && isFree(shot, ~rest)) {
                    int there = plan.shots[shot].place();
                    int end = endFrom(shot, time + (there == place ? 0 : plan.move));
                    if (end <= latestStart[(rest & ~(1 << shot)) * PLACES + there]) {
                        return shot;
                    }
                }
            }
            return NONE;
        }
    }
}
