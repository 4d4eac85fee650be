/** Bath chairs that race for the regency; the document tells what each call answers. */
public final class ChairRegents {
    public static final int BAD = -1, STATE = -2, FULL = -3, NONE = -9;
    public static final int NO = -1000000;

    private static final int MOST_CHAIRS = 5;
    private static final int MOST_CELLS = 16;
    private static final int MOST_LETTERS = 120;
    private static final int MOST_HANDICAP = 5;
    private static final int MOST_WEEKS = 999;
    private static final int MOST_DEEDS = 10;
    private static final int MOST_TIMED = 6;
    private static final int MOST_MINUTES_TOLD = 200;
    private static final int POLICIES = 4;
    private static final int USUAL_STRENGTH = 5;
    private static final int ILL_STRENGTH = 1;
    private static final int BEND_COST = 6;

    private final Script script = new Script();
    private final Spa draft = new Spa();
    private final Day firstImage = new Day();
    private final Day secondImage = new Day();
    private final Deeds deeds = new Deeds();
    private final Stopwatch stopwatch = new Stopwatch();
    private final Kinds kinds = new Kinds();
    private final Forecast forecast = new Forecast();
    // The forecast makes what it reads: a constructor hands out no part of what it makes.
    private final Spa told = forecast.told;
    private final Day today = forecast.today;

    public ChairRegents() {
    }

    // ---- the spa

    public int type(int letter) {
        if (letter < 0 || letter > 255) return BAD;
        if (script.length >= MOST_LETTERS) return FULL;
        script.write(letter);
        return script.length;
    }

    public int clear() {
        int had = script.length;
        script.length = 0;
        return had;
    }

    public int spa() {
        int items = script.readInto(draft);
        if (items < 0) return items;
        told.become(draft);
        today.start();
        deeds.size = 0;
        stopwatch.size = 0;
        firstImage.isKept = false;
        secondImage.isKept = false;
        script.length = 0;
        return items;
    }

    public int chair(int c, int what) {
        if (!isChair(c)) return BAD;
        switch (what) {
            case 0: return told.weights[c];
            case 1: return told.policies[c];
            case 2: return today.pushers[c];
            case 3: return today.handicaps[c];
            case 4: return today.greased[c] ? 1 : 0;
            case 5: return today.gainOf(told, c);
            case 6: return today.regencies[c];
            default: return BAD;
        }
    }

    public int pusher(int p) {
        return isChair(p) ? told.strengths[p] : BAD;
    }

    public int cell(int k) {
        return k >= 0 && k < told.cellCount ? told.costs[k] : BAD;
    }

    public int now(int what) {
        switch (what) {
            case 0: return today.weeks;
            case 1: return told.hasRace() ? forecast.winner() : NONE;
            case 2: return told.hasRace() ? forecast.kings() : 0;
            case 3: return today.ruledMost(told);
            case 4: return told.hasRace() ? stopwatch.suspects(true, told, today) : 0;
            case 5: return told.hasRace() ? stopwatch.suspects(false, told, today) : 0;
            case 6: return deeds.size;
            default: return BAD;
        }
    }

    // ---- what is done

    public int tuesday() {
        if (!told.hasRace() || today.weeks >= MOST_WEEKS) return STATE;
        int regent = forecast.winner();
        // With a race there always is one; the test keeps the index below safe.
        if (!isChair(regent)) return STATE;
        today.regencies[regent]++;
        today.weeks++;
        deeds.add(Deeds.TUESDAY, regent, 0);
        return regent;
    }

    public int changes(int c, int e) {
        if (!isChair(c) || !isChair(e) || c == e) return BAD;
        today.exchange(c, e);
        deeds.add(Deeds.CHANGE, c, e);
        return today.pushers[c];
    }

    public int sets(int c, int handicap) {
        if (!isChair(c) || handicap < 0 || handicap > MOST_HANDICAP) return BAD;
        int old = today.handicaps[c];
        if (old == handicap) return STATE;
        today.handicaps[c] = handicap;
        deeds.add(Deeds.SET, c, old);
        return old;
    }

    public int greases(int c, int is) {
        if (!isChair(c) || is < 0 || is > 1) return BAD;
        boolean wanted = is == 1;
        if (today.greased[c] == wanted) return STATE;
        today.greased[c] = wanted;
        deeds.add(Deeds.GREASE, c, 0);
        return today.greasedCount(told.chairCount);
    }

    public int undo() {
        if (deeds.size < 1) return STATE;
        deeds.takeBackLatest(today);
        return deeds.size;
    }

    // ---- races

    public int time(int c) {
        if (!isChair(c)) return BAD;
        if (!told.hasRace()) return STATE;
        return forecast.timeOf(c);
    }

    public int place(int k) {
        if (!isChair(k)) return BAD;
        if (!told.hasRace()) return STATE;
        return forecast.placed(k);
    }

    public int alone(int c) {
        if (!isChair(c)) return BAD;
        if (!told.hasRace()) return STATE;
        return today.aloneOf(told, c, today.greased[c]);
    }

    public int king(int c, int k) {
        if (!isChair(c) || k != -1 && !isChair(k)) return BAD;
        if (!told.hasRace()) return STATE;
        int changed = forecast.findKing(c);
        return changed == NONE || k == -1 ? changed : forecast.kingsPusher(k);
    }

    public int fair(int c) {
        if (c != -1 && !isChair(c)) return BAD;
        if (!told.hasRace()) return STATE;
        int goal = forecast.fairGoal();
        return c == -1 ? forecast.spreadFor(goal) : forecast.handicapFor(goal, c);
    }

    public int odds(int c, int x, int what) {
        if (!isChair(c) || x < 0 || x > 10 || what < 0 || what > 1) return BAD;
        if (!told.hasRace()) return STATE;
        int upper = forecast.winsIn(c, x);
        int lower = forecast.allIn();
        int shared = commonDivisor(lower, upper);
        // The lower number is 10 at least, so their divisor is 1 at least.
        if (shared < 1) return STATE;
        return (what == 0 ? upper : lower) / shared;
    }

    // ---- times

    public int times(int c, int t) {
        if (!isChair(c) || t < 1 || t > MOST_MINUTES_TOLD) return BAD;
        if (!told.hasRace()) return STATE;
        if (stopwatch.size >= MOST_TIMED) return FULL;
        stopwatch.note(c, t);
        return stopwatch.size;
    }

    public int forget() {
        int had = stopwatch.size;
        stopwatch.size = 0;
        return had;
    }

    // ---- kinds, images

    public int rate(int kind, int c) {
        if (!isChair(c)) return NO;
        switch (kind) {
            case 0: return kinds.asChair(told, c);
            case 1: return kinds.asWidow(told, today, c);
            case 2: return kinds.asAunt(told, today, c);
            case 3: return kinds.asPug(told, today, c);
            case 4: return kinds.asVeil(told, today, c);
            case 5: return kinds.asInfant(told, today, c);
            default: return NO;
        }
    }

    public int keep(int image) {
        if (image < 0 || image > 1) return BAD;
        Day kept = imageOf(image);
        kept.become(today);
        kept.isKept = true;
        return today.weeks;
    }

    public int back(int image) {
        if (image < 0 || image > 1) return BAD;
        Day kept = imageOf(image);
        if (!kept.isKept) return STATE;
        today.become(kept);
        deeds.size = 0;
        return today.weeks;
    }

    public int count(int what) {
        switch (what) {
            case 0: return told.cellCount;
            case 1: return told.chairCount;
            case 2: return stopwatch.size;
            case 3: return script.length;
            default: return BAD;
        }
    }

    public long trace() {
        return kinds.marks;
    }

    /** Pushers and places are numbered as the chairs are, so this is the test for them too. */
    private boolean isChair(int c) {
        return c >= 0 && c < told.chairCount;
    }

    private Day imageOf(int image) {
        return image == 0 ? firstImage : secondImage;
    }

    private static int commonDivisor(int larger, int smaller) {
        int a = larger;
        int b = smaller;
        for (int step = 0; step < 100 && b != 0; step++) {
            int rest = a % b;
            a = b;
            b = rest;
        }
        return a;
    }

    /** The promenade, the chairs and the strengths of the pushers, as a text told them. */
    private static final class Spa {
        final int[] costs = new int[MOST_CELLS];
        final int[] weights = new int[MOST_CHAIRS];
        final int[] policies = new int[MOST_CHAIRS];
        final int[] strengths = new int[MOST_CHAIRS];
        int cellCount;
        int chairCount;
        private int length;

        void empty() {
            cellCount = 0;
            chairCount = 0;
            length = 0;
        }

        void become(Spa other) {
            System.arraycopy(other.costs, 0, costs, 0, MOST_CELLS);
            System.arraycopy(other.weights, 0, weights, 0, MOST_CHAIRS);
            System.arraycopy(other.policies, 0, policies, 0, MOST_CHAIRS);
            System.arraycopy(other.strengths, 0, strengths, 0, MOST_CHAIRS);
            cellCount = other.cellCount;
            chairCount = other.chairCount;
            length = other.length;
        }

        boolean hasRace() {
            return cellCount > 0 && chairCount > 0;
        }

        void addCell(int cost) {
            if (cellCount >= MOST_CELLS) return;
            costs[cellCount] = cost;
            cellCount++;
            length += cost;
        }

        void addChair(int weight, int policy) {
            if (chairCount >= MOST_CHAIRS) return;
            weights[chairCount] = weight;
            policies[chairCount] = policy;
            strengths[chairCount] = USUAL_STRENGTH;
            chairCount++;
        }

        int strengthOf(int p) {
            return p >= 0 && p < chairCount ? strengths[p] : USUAL_STRENGTH;
        }

        int gainBy(int c, int strength, boolean isGreased) {
            int pushed = Math.max(1, 2 * strength - weights[c]);
            return isGreased ? pushed + 3 : pushed;
        }

        /** How many minutes a chair moves that no other one is in the way of. */
        int minutesBy(int gain) {
            return gain < 1 ? 0 : (length + gain - 1) / gain;
        }
    }

    /** What an image keeps: who pushes whom, handicaps, grease, weeks and regents. */
    private static final class Day {
        final int[] pushers = new int[MOST_CHAIRS];
        final int[] handicaps = new int[MOST_CHAIRS];
        final boolean[] greased = new boolean[MOST_CHAIRS];
        final int[] regencies = new int[MOST_CHAIRS];
        int weeks;
        boolean isKept;

        void start() {
            for (int c = 0; c < MOST_CHAIRS; c++) {
                pushers[c] = c;
                handicaps[c] = 0;
                greased[c] = false;
                regencies[c] = 0;
            }
            weeks = 0;
        }

        void become(Day other) {
            for (int c = 0; c < MOST_CHAIRS; c++) {
                pushers[c] = other.pushers[c];
                handicaps[c] = other.handicaps[c];
                greased[c] = other.greased[c];
                regencies[c] = other.regencies[c];
            }
            weeks = other.weeks;
        }

        void exchange(int c, int e) {
            int pusher = pushers[c];
            pushers[c] = pushers[e];
            pushers[e] = pusher;
        }

        int greasedCount(int chairs) {
            int sum = 0;
            for (int c = 0; c < chairs; c++) {
                if (greased[c]) sum++;
            }
            return sum;
        }

        int gainOf(Spa told, int c) {
            return told.gainBy(c, told.strengthOf(pushers[c]), greased[c]);
        }

        /** Nobody is in the way of a lone chair, so it needs no race: its points just add up. */
        int aloneOf(Spa told, int c, boolean isGreased) {
            int gain = told.gainBy(c, told.strengthOf(pushers[c]), isGreased);
            return handicaps[c] + told.minutesBy(gain);
        }

        int ruledMost(Spa told) {
            if (weeks == 0) return NONE;
            int best = 0;
            for (int policy = 1; policy < POLICIES; policy++) {
                if (weeksOf(told, policy) > weeksOf(told, best)) best = policy;
            }
            return best;
        }

        private int weeksOf(Spa told, int policy) {
            int sum = 0;
            for (int c = 0; c < told.chairCount; c++) {
                if (told.policies[c] == policy) sum += regencies[c];
            }
            return sum;
        }
    }

    /** The text, letter by letter, and how it is read. */
    private static final class Script {
        // What a token is that is no single letter; below 0, where no letter is.
        private static final int END = -1, NUMBER = -2;
        private static final int NO_VALUE = -1;

        private final int[] letters = new int[MOST_LETTERS];
        int length;
        private int next;
        private int token;
        private int tokenPlace;
        private int value;

        void write(int letter) {
            if (length >= MOST_LETTERS) return;
            letters[length] = letter;
            length++;
        }

        /** How many items there are, or -10 less the fault. */
        int readInto(Spa draft) {
            draft.empty();
            next = 0;
            int items = 0;
            readToken();
            while (token != END && items < MOST_LETTERS) {
                if (!readItem(draft)) return -10 - tokenPlace;
                items++;
                readToken();
            }
            return items;
        }

        /** Whether the item stands; if not, the token at hand is the faulty one. */
        private boolean readItem(Spa draft) {
            switch (token) {
                case 'l': return draft.cellCount == 0 && readPromenade(draft);
                case 'c': return draft.chairCount < MOST_CHAIRS && readChair(draft);
                case 'p': return readPusher(draft);
                default: return false;
            }
        }

        private boolean readPromenade(Spa draft) {
            readToken();
            for (int k = 0; k < MOST_CELLS && costOfToken() > 0; k++) {
                draft.addCell(costOfToken());
                readToken();
            }
            return draft.cellCount > 0 && token == ';';
        }

        private int costOfToken() {
            switch (token) {
                case 'f': return 4;
                case 'u': return 8;
                case 'd': return 2;
                case 'b': return BEND_COST;
                default: return 0;
            }
        }

        private boolean readChair(Spa draft) {
            if (!readNumber(1, 9)) return false;
            int weight = value;
            if (!readNumber(0, POLICIES - 1)) return false;
            draft.addChair(weight, value);
            return readEnd();
        }

        private boolean readPusher(Spa draft) {
            if (!readNumber(0, draft.chairCount - 1)) return false;
            int pusher = value;
            if (!readNumber(1, 9)) return false;
            if (pusher >= 0 && pusher < draft.chairCount) draft.strengths[pusher] = value;
            return readEnd();
        }

        private boolean readNumber(int least, int most) {
            readToken();
            return token == NUMBER && value >= least && value <= most;
        }

        private boolean readEnd() {
            readToken();
            return token == ';';
        }

        private void readToken() {
            while (next < length && letters[next] == ' ') next++;
            tokenPlace = next;
            if (next >= length) {
                token = END;
            } else if (isDigitAt(next)) {
                readDigits();
            } else {
                token = letters[next];
                next++;
            }
        }

        /** A number of three digits, or with a 0 ahead, has no value, so that it can stand nowhere. */
        private void readDigits() {
            token = NUMBER;
            value = 0;
            while (next < length && isDigitAt(next)) {
                boolean isTooLong = next - tokenPlace >= 2;
                boolean isBehindZero = next > tokenPlace && value == 0;
                if (isTooLong || isBehindZero || value == NO_VALUE) value = NO_VALUE;
                else value = 10 * value + letters[next] - '0';
                next++;
            }
        }

        private boolean isDigitAt(int place) {
            return letters[place] >= '0' && letters[place] <= '9';
        }
    }

    /** One race; its rows are made once and used again by every race. */
    private static final class Race {
        // The foremost chair moves in every minute: five chairs over 16 slopes need 645 at most.
        private static final int LAST_MINUTE = 1000;

        final int[] gains = new int[MOST_CHAIRS];
        final int[] minutes = new int[MOST_CHAIRS];
        private final int[] cells = new int[MOST_CHAIRS];
        private final int[] points = new int[MOST_CHAIRS];
        private final int[] order = new int[MOST_CHAIRS];
        private int inCount;

        /** Goes on until so many chairs are in. */
        void go(Spa told, int[] handicaps, int wanted) {
            inCount = 0;
            for (int c = 0; c < told.chairCount; c++) {
                cells[c] = 0;
                points[c] = 0;
                minutes[c] = 0;
            }
            for (int minute = 1; minute <= LAST_MINUTE && inCount < wanted; minute++) {
                for (int c = 0; c < told.chairCount; c++) {
                    boolean isOut = cells[c] < told.cellCount;
                    if (isOut && handicaps[c] < minute) move(told, c, minute);
                }
            }
        }

        int inAs(int k) {
            return k >= 0 && k < inCount ? order[k] : NONE;
        }

        private void move(Spa told, int c, int minute) {
            points[c] += gains[c];
            for (int here = cells[c]; here < told.cellCount; here++) {
                int cost = told.costs[here];
                if (points[c] < cost) return;
                if (isBlocked(told, c, here + 1)) {
                    points[c] = cost;
                    return;
                }
                points[c] -= cost;
                cells[c] = here + 1;
            }
            arrive(c, minute);
        }

        private boolean isBlocked(Spa told, int c, int cell) {
            if (cell >= told.cellCount || told.costs[cell] != BEND_COST) return false;
            for (int e = 0; e < told.chairCount; e++) {
                if (e != c && cells[e] == cell) return true;
            }
            return false;
        }

        private void arrive(int c, int minute) {
            if (inCount >= MOST_CHAIRS) return;
            minutes[c] = minute;
            order[inCount] = c;
            inCount++;
        }
    }

    /** What would be, as things are now: winners, kings, fair handicaps and odds. */
    private static final class Forecast {
        private static final int NOBODY = 0;
        // 5 chairs have 5! ways to be given 5 pushers.
        private static final int MOST_WAYS = 120;
        // 16 slopes (128 points) by a gain of 1, and the greatest handicap.
        private static final int LATEST_ALONE = 133;

        final Spa told = new Spa();
        final Day today = new Day();
        private final Race race = new Race();
        private final int[] way = new int[MOST_CHAIRS];
        private final int[] kingsWay = new int[MOST_CHAIRS];
        private final int[] unhindered = new int[MOST_CHAIRS];

        int winner() {
            return winnerBy(today.pushers, NOBODY);
        }

        int timeOf(int c) {
            raceBy(today.pushers, NOBODY, told.chairCount);
            return race.minutes[c];
        }

        int placed(int k) {
            raceBy(today.pushers, NOBODY, told.chairCount);
            return race.inAs(k);
        }

        /** Chairs, as bits, that win by some way. */
        int kings() {
            int all = (1 << told.chairCount) - 1;
            int found = 0;
            startWays();
            boolean isWay = true;
            for (int tried = 0; tried < MOST_WAYS && isWay && found != all; tried++) {
                int winner = winnerBy(way, NOBODY);
                if (winner >= 0) found |= 1 << winner;
                isWay = toNextWay();
            }
            return found;
        }

        /** How many chairs have another pusher in the king's way, which is kept; or NONE. */
        int findKing(int c) {
            int fewest = MOST_CHAIRS + 1;
            startWays();
            boolean isWay = true;
            for (int tried = 0; tried < MOST_WAYS && isWay; tried++) {
                int changed = changedByWay();
                if (changed < fewest && winnerBy(way, NOBODY) == c) {
                    fewest = changed;
                    System.arraycopy(way, 0, kingsWay, 0, MOST_CHAIRS);
                }
                isWay = toNextWay();
            }
            return fewest > MOST_CHAIRS ? NONE : fewest;
        }

        int kingsPusher(int k) {
            return kingsWay[k];
        }

        /**
         * The earliest minute for which the chairs are held back so that they come in most alike.
         * Whatever fair handicaps there are, let m be the least time alone by them: holding each
         * chair back just to m asks no more of any and spreads them no wider. A later goal never
         * asks less of any, so the first best goal has the least handicaps, and no others are as good.
         */
        int fairGoal() {
            for (int c = 0; c < told.chairCount; c++) {
                unhindered[c] = told.minutesBy(today.gainOf(told, c));
            }
            int best = 0;
            int leastSpread = spreadFor(best);
            for (int goal = 1; goal <= LATEST_ALONE; goal++) {
                int spread = spreadFor(goal);
                if (spread < leastSpread) {
                    best = goal;
                    leastSpread = spread;
                }
            }
            return best;
        }

        /** For a goal that fairGoal() answered just before, as spreadFor() too. */
        int handicapFor(int goal, int c) {
            int missing = goal - unhindered[c];
            return Math.max(0, Math.min(MOST_HANDICAP, missing));
        }

        int spreadFor(int goal) {
            int least = LATEST_ALONE;
            int most = 0;
            for (int c = 0; c < told.chairCount; c++) {
                int minutes = unhindered[c] + handicapFor(goal, c);
                least = Math.min(least, minutes);
                most = Math.max(most, minutes);
            }
            return most - least;
        }

        /** Of all that may come by ill pushers, counted in parts of allIn(): where the chair wins. */
        int winsIn(int c, int x) {
            int sum = 0;
            for (int ill = 0; ill < 1 << told.chairCount; ill++) {
                int weight = weightOf(ill, x);
                if (weight > 0 && winnerBy(today.pushers, ill) == c) sum += weight;
            }
            return sum;
        }

        int allIn() {
            int all = 1;
            for (int p = 0; p < told.chairCount; p++) all *= 10;
            return all;
        }

        private int weightOf(int ill, int x) {
            int weight = 1;
            for (int p = 0; p < told.chairCount; p++) weight *= isIll(ill, p) ? x : 10 - x;
            return weight;
        }

        private static boolean isIll(int ill, int p) {
            return (ill >> p & 1) == 1;
        }

        private int winnerBy(int[] pushers, int ill) {
            raceBy(pushers, ill, 1);
            return race.inAs(0);
        }

        private void raceBy(int[] pushers, int ill, int wanted) {
            for (int c = 0; c < told.chairCount; c++) {
                int p = pushers[c];
                int strength = isIll(ill, p) ? ILL_STRENGTH : told.strengthOf(p);
                race.gains[c] = told.gainBy(c, strength, today.greased[c]);
            }
            race.go(told, today.handicaps, wanted);
        }

        private void startWays() {
            for (int c = 0; c < MOST_CHAIRS; c++) way[c] = c;
        }

        private int changedByWay() {
            int changed = 0;
            for (int c = 0; c < told.chairCount; c++) {
                if (way[c] != today.pushers[c]) changed++;
            }
            return changed;
        }

        /** The ways go by chair 0's pusher, then 1's; whether there was one more. */
        private boolean toNextWay() {
            int raised = told.chairCount - 2;
            while (raised >= 0 && way[raised] > way[raised + 1]) raised--;
            if (raised < 0) return false;
            int larger = told.chairCount - 1;
            while (larger > raised + 1 && way[larger] < way[raised]) larger--;
            swapInWay(raised, larger);
            int right = told.chairCount - 1;
            for (int left = raised + 1; left < right; left++) {
                swapInWay(left, right);
                right--;
            }
            return true;
        }

        private void swapInWay(int c, int e) {
            int pusher = way[c];
            way[c] = way[e];
            way[e] = pusher;
        }
    }

    /** What was done, the latest last; the oldest is lost where there is no room. */
    private static final class Deeds {
        static final int TUESDAY = 0, CHANGE = 1, SET = 2, GREASE = 3;

        private final int[] whats = new int[MOST_DEEDS];
        private final int[] chairs = new int[MOST_DEEDS];
        private final int[] others = new int[MOST_DEEDS];
        int size;

        /** The other is the chair changed with, or the handicap that was. */
        void add(int what, int c, int other) {
            if (size >= MOST_DEEDS) dropOldest();
            whats[size] = what;
            chairs[size] = c;
            others[size] = other;
            size++;
        }

        void takeBackLatest(Day today) {
            if (size < 1) return;
            size--;
            int c = chairs[size];
            int other = others[size];
            switch (whats[size]) {
                case TUESDAY:
                    today.regencies[c]--;
                    today.weeks--;
                    break;
                case CHANGE:
                    today.exchange(c, other);
                    break;
                case SET:
                    today.handicaps[c] = other;
                    break;
                default:
                    today.greased[c] = !today.greased[c];
                    break;
            }
        }

        private void dropOldest() {
            System.arraycopy(whats, 1, whats, 0, MOST_DEEDS - 1);
            System.arraycopy(chairs, 1, chairs, 0, MOST_DEEDS - 1);
            System.arraycopy(others, 1, others, 0, MOST_DEEDS - 1);
            size = MOST_DEEDS - 1;
        }
    }

    /** In how many minutes chairs were in alone, as somebody timed them. */
    private static final class Stopwatch {
        private final int[] chairs = new int[MOST_TIMED];
        private final int[] minutes = new int[MOST_TIMED];
        int size;

        void note(int c, int t) {
            if (size >= MOST_TIMED) return;
            chairs[size] = c;
            minutes[size] = t;
            size++;
        }

        /** Chairs, as bits, not all as if dry: the guilty are all as if greased, the doubtful not. */
        int suspects(boolean isGuilty, Spa told, Day today) {
            int bits = 0;
            for (int c = 0; c < told.chairCount; c++) {
                boolean isAsDry = isAllAsIf(false, told, today, c);
                if (!isAsDry && isAllAsIf(true, told, today, c) == isGuilty) bits |= 1 << c;
            }
            return bits;
        }

        /** Of a chair that nobody timed this holds both ways, so it is neither guilty nor doubtful. */
        private boolean isAllAsIf(boolean isGreased, Spa told, Day today, int c) {
            int due = today.aloneOf(told, c, isGreased);
            for (int i = 0; i < size; i++) {
                if (chairs[i] == c && minutes[i] != due) return false;
            }
            return true;
        }
    }

    /** Chairs rated as if of a kind; every body that is asked leaves its mark. */
    private static final class Kinds {
        long marks;

        int asChair(Spa told, int c) {
            marks += 1;
            return told.weights[c];
        }

        int asWidow(Spa told, Day today, int c) {
            marks += 10;
            return asChair(told, c) + today.handicaps[c];
        }

        int asAunt(Spa told, Day today, int c) {
            marks += 100;
            return asChair(told, c) - today.gainOf(told, c);
        }

        int asPug(Spa told, Day today, int c) {
            marks += 1000;
            return 2 * asWidow(told, today, c);
        }

        int asVeil(Spa told, Day today, int c) {
            marks += 10000;
            return asAunt(told, today, c) + c;
        }

        int asInfant(Spa told, Day today, int c) {
            marks += 100000;
            return asChair(told, c) + today.weeks;
        }
    }
}
