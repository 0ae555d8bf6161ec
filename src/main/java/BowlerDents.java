/**
 * Wearers of covers, and the sayings that strike them: see README.md and ../shared/DOC.md.
 *
 * All rows are made with the object and used again: no call makes an object or an array.
 */
public final class BowlerDents {
    public static final int NONE = -1, BAD = -2, STATE = -3, FULL = -4;
    public static final long NO = Long.MIN_VALUE;

    private static final int NOTHING = -11, CAST = -12, PLACE = -13, SIZE = -14;
    /** The answer of a question to which nothing fits. */
    private static final int UNMET = -5;
    /** Stands for NONE where the answer may be below 0. */
    private static final int NO_NUMBER = -10001;

    private static final int WEARER = 0, CLERK = 1, SOFT = 2, HEIR = 3, BANKER = 4, KETTLE = 5, TOLD = 6;
    private static final int MOST_WEARERS = 6, MOST_SAYINGS = 8, MOST_CITIES = 6, MOST_TAPES = 6;
    private static final int MOST_TEXT = 100, MOST_CLAUSES = 10, MOST_DEPTH = 4, MOST_ITEMS = 60, MOST_KEPT = 20;
    private static final int MOST_V = 9, MOST_COVER = 99, MOST_TOLL = 9999, MOST_DAY = 9999;
    private static final int EMPTY = -1, BYTES = 0, SHORTS = 1, INTS = 2, BOOLEANS = 4;
    private static final int ALL = -1;

    private final City[] cities = new City[MOST_CITIES];
    private final Reader reader = new Reader();
    private final World now = new World();
    private final World trial = new World();
    private final World imageWorld = new World();
    private final Hand hand = new Hand();
    private final Hand imageHand = new Hand();
    private final Trail trail = new Trail();
    private final Strip[] strips = new Strip[MOST_TAPES];
    private int cityCount = 0;
    private boolean hasImage = false;

    public BowlerDents() {
        for (int i = 0; i < cities.length; i++) {
            cities[i] = new City();
        }
        for (int i = 0; i < strips.length; i++) {
            strips[i] = new Strip();
        }
    }

    // ---- wearers, sayings, cities

    public int wearer(int kind, int v, int cover) {
        if (isOut(kind, TOLD)) {
            return NONE;
        }
        if (isOut(v, MOST_V) || isOut(cover, MOST_COVER)) {
            return BAD;
        }
        return now.addWearer(kind, v, cover);
    }

    public int of(int wearer, int what) {
        if (!now.hasWearer(wearer)) {
            return NO_NUMBER;
        }
        Wearer w = now.wearers[wearer];
        switch (what) {
            case 0:
                return w.kind;
            case 1:
                return w.v;
            case 2:
                return w.cover;
            case 3:
                return w.dents;
            case 4:
                return w.hurt;
            case 5:
                return daysUntilSore(wearer);
            case 6:
                return fitting(true, wearer, false);
            case 7:
                return fitting(true, wearer, true);
            default:
                int saying = what - 10;
                return now.hasSaying(saying) ? now.guard(w, saying) : NO_NUMBER;
        }
    }

    public int saying(int hard, int every) {
        if (isOut(hard, 60) || every < 1 || every > 9) {
            return BAD;
        }
        return now.addSaying(hard, every);
    }

    public int phrase(int saying, int what) {
        if (!now.hasSaying(saying)) {
            return NONE;
        }
        Saying s = now.sayings[saying];
        switch (what) {
            case 0:
                return s.hard;
            case 1:
                return s.every;
            case 2:
                return s.target;
            default:
                return NONE;
        }
    }

    public int aim(int saying, int wearer) {
        if (!now.hasSaying(saying) || (wearer != -1 && !now.hasWearer(wearer))) {
            return NONE;
        }
        Saying s = now.sayings[saying];
        int before = s.target;
        s.target = wearer == -1 ? UNMET : wearer;
        return before;
    }

    public int mend(int wearer, int n) {
        if (!now.hasWearer(wearer)) {
            return NONE;
        }
        if (isOut(n, MOST_COVER)) {
            return BAD;
        }
        Wearer w = now.wearers[wearer];
        int before = w.cover;
        w.cover = n;
        return before;
    }

    public int row(int wearer, int part, int n) {
        if (!now.hasWearer(wearer) || isOut(part, 3)) {
            return NONE;
        }
        if (isOut(n, 9)) {
            return BAD;
        }
        Wearer w = now.wearers[wearer];
        if (w.kind != TOLD) {
            return STATE;
        }
        int before = w.parts[part];
        w.parts[part] = n;
        return before;
    }

    public int feed(int sign) {
        if (isOut(sign, 127)) {
            return BAD;
        }
        return reader.takes(sign);
    }

    public int city() {
        if (cityCount >= cities.length) {
            return FULL;
        }
        City made = cities[cityCount];
        boolean isCity = reader.makes(made);
        reader.length = 0;
        if (!isCity) {
            return -10 - reader.place;
        }
        now.city = made;
        cityCount++;
        return cityCount - 1;
    }

    public int told(int what) {
        switch (what) {
            case 0:
                return now.day;
            case 1:
                return now.city.rub;
            case 2:
                return now.hurtOfAll();
            case 3:
                return now.coverOfAll();
            case 4:
                return now.strikingBits();
            default:
                return NONE;
        }
    }

    // ---- days

    public int pass(int n) {
        if (isOut(n, 60)) {
            return BAD;
        }
        if (now.day + n > MOST_DAY) {
            return STATE;
        }
        now.go(n, ALL);
        return now.day;
    }

    public int on(int n, int what) {
        int sort = what / 10;
        int p = what % 10;
        boolean isOfAll = what == 0;
        if (!isOfAll && (sort < 1 || sort > 3 || !now.hasWearer(p))) {
            return NONE;
        }
        if (isOut(n, 60)) {
            return BAD;
        }
        trial.become(now);
        trial.go(n, ALL);
        if (isOfAll) {
            return trial.hurtOfAll();
        }
        Wearer w = trial.wearers[p];
        return sort == 1 ? w.cover : sort == 2 ? w.dents : w.hurt;
    }

    public int best(int n, int what) {
        int saying = what - 10;
        if (what != 0 && what != 1 && !now.hasSaying(saying)) {
            return NONE;
        }
        if (n < 1 || n > (what == 0 ? 12 : 20)) {
            return BAD;
        }
        if (what == 0) {
            return fewestToMend(n);
        }
        return what == 1 ? bestChange(n) : bestTarget(saying, n);
    }

    // ---- seen, odds

    public int see(int wearer, int n, int cover) {
        if (wearer == -1) {
            return hand.seen.empty();
        }
        if (!now.hasWearer(wearer)) {
            return NONE;
        }
        if (isOut(n, 12) || isOut(cover, MOST_COVER)) {
            return BAD;
        }
        return hand.seen.add(wearer, n, cover);
    }

    public int ache(int wearer, int n, boolean isMore) {
        if (wearer == -1) {
            return hand.sores.empty();
        }
        if (!now.hasWearer(wearer)) {
            return NONE;
        }
        if (isOut(n, 12)) {
            return BAD;
        }
        return hand.sores.add(wearer, n, isMore ? 1 : 0);
    }

    public int can(int wearer, int what) {
        if (!now.hasWearer(wearer) || isOut(what, 1)) {
            return NONE;
        }
        return fitting(false, wearer, what == 1);
    }

    public long odds(int saying, int wearer, int n, int part) {
        if (!now.hasSaying(saying) || !now.hasWearer(wearer) || isOut(n, 20) || isOut(part, 1)) {
            return NO;
        }
        int hurtings = 0;
        for (int p = 0; p < now.wearerCount; p++) {
            trial.become(now);
            trial.sayings[saying].target = p;
            trial.go(n, wearer);
            if (isMoreHurt(wearer)) {
                hurtings++;
            }
        }
        return ofLowestTerms(hurtings, now.wearerCount, part);
    }

    public long mean(int n, int part) {
        if (now.wearerCount == 0 || isOut(n, 60) || isOut(part, 1)) {
            return NO;
        }
        trial.become(now);
        trial.go(n, ALL);
        return ofLowestTerms(trial.coverOfAll(), now.wearerCount, part);
    }

    // ---- plans, books

    public int plan(int what, int n) {
        if (what == -1) {
            return hand.plan.empty();
        }
        boolean isOfWearer = what == 1 || what == 3;
        if (isOut(what, 3) || (isOfWearer && !now.hasWearer(n)) || (what == 2 && !now.hasSaying(n))) {
            return NONE;
        }
        return hand.plan.add(n, what, 0);
    }

    public int ends(int what) {
        if (isOut(what, 1)) {
            return NONE;
        }
        trial.become(now);
        for (int i = 0; i < hand.plan.count; i++) {
            followPlan(hand.plan.sort[i], hand.plan.who[i]);
        }
        return what == 0 ? trial.hurtOfAll() : trial.coverOfAll();
    }

    public int book(int wearer, int cover) {
        if (wearer == -1) {
            return hand.book.empty();
        }
        if (!now.hasWearer(wearer)) {
            return NONE;
        }
        if (isOut(cover, MOST_COVER)) {
            return BAD;
        }
        return hand.book.add(wearer, 0, cover);
    }

    public int looked() {
        Rows book = hand.book;
        for (int i = 0; i < book.count; i++) {
            if (now.wearers[book.who[i]].cover != book.value[i]) {
                return i;
            }
        }
        return UNMET;
    }

    // ---- judging, the image, acts, tapes

    public int judge(int tape, int i) {
        if (isOut(tape, MOST_TAPES - 1)) {
            return NONE;
        }
        Strip s = strips[tape];
        if (s.sort != BYTES && s.sort != EMPTY) {
            return CAST;
        }
        for (int p = 0; p < now.wearerCount; p++) {
            if (i < 0 || i >= s.length - p) {
                return 100 + p;
            }
            if (s.items[i + p] != now.wearers[p].cover) {
                return p;
            }
        }
        return UNMET;
    }

    public int image() {
        imageWorld.become(now);
        imageHand.become(hand);
        hasImage = true;
        return now.wearerCount;
    }

    public int undo() {
        if (!hasImage) {
            return STATE;
        }
        now.become(imageWorld);
        hand.become(imageHand);
        return now.wearerCount;
    }

    public int act(int wearer, int act, int x) {
        trail.ran = 0;
        if (!now.hasWearer(wearer)) {
            return 0;
        }
        Wearer w = now.wearers[wearer];
        switch (act) {
            case 0:
                return Trail.nods(w, w.kind, x, trail);
            case 1:
                return Trail.knocks(w, w.kind, x, trail);
            case 2:
                return Trail.tells(w, w.kind, x, trail);
            default:
                return 0;
        }
    }

    public int trace(int i) {
        return i >= 0 && i < trail.ran && i < trail.bodies.length ? trail.bodies[i] : NONE;
    }

    public int taken(int wearer, int k) {
        if (isOut(k, TOLD)) {
            return BAD;
        }
        if (!now.hasWearer(wearer)) {
            return NOTHING;
        }
        int kind = now.wearers[wearer].kind;
        return kind == k || kindAbove(kind) == k || k == WEARER ? kind : CAST;
    }

    public int count(int what) {
        switch (what) {
            case 0:
                return now.wearerCount;
            case 1:
                return now.sayingCount;
            case 2:
                return cityCount;
            case 3:
                return hand.seen.count;
            case 4:
                return hand.sores.count;
            case 5:
                return hand.plan.count;
            case 6:
                return hand.book.count;
            case 7:
                return reader.length;
            case 8:
                return trail.ran;
            default:
                return BAD;
        }
    }

    public int tape(int tape, int sort, int n) {
        if (isOut(tape, MOST_TAPES - 1)) {
            return NONE;
        }
        if (sort < EMPTY || sort > BOOLEANS) {
            return BAD;
        }
        if (sort != EMPTY && n > MOST_ITEMS) {
            return BAD;
        }
        if (sort != EMPTY && n < 0) {
            return SIZE;
        }
        strips[tape].become(sort, sort == EMPTY ? 0 : n);
        return 1;
    }

    public int item(int tape, int i, long v) {
        if (isOut(tape, MOST_TAPES - 1)) {
            return NONE;
        }
        Strip s = strips[tape];
        if (s.sort == EMPTY) {
            return NOTHING;
        }
        if (isOut(i, s.length - 1)) {
            return PLACE;
        }
        s.items[i] = s.fitted(v);
        return 1;
    }

    public long read(int tape, int i) {
        if (isOut(tape, MOST_TAPES - 1)) {
            return NO;
        }
        Strip s = strips[tape];
        return isOut(i, s.length - 1) ? NO : s.items[i];
    }

    public int shift(int tape, int i, int other, int j, int n) {
        if (isOut(tape, MOST_TAPES - 1) || isOut(other, MOST_TAPES - 1)) {
            return NONE;
        }
        Strip from = strips[tape];
        Strip to = strips[other];
        if (from.sort == EMPTY || to.sort == EMPTY) {
            return NOTHING;
        }
        if (from.sort != to.sort) {
            return CAST;
        }
        if (!from.holds(i, n) || !to.holds(j, n)) {
            return PLACE;
        }
        System.arraycopy(from.items, i, to.items, j, n);
        return n;
    }

    // ---- what the calls above share

    private static boolean isOut(int x, int most) {
        return x < 0 || x > most;
    }

    private static int kindAbove(int kind) {
        switch (kind) {
            case BANKER:
                return CLERK;
            case KETTLE:
                return SOFT;
            case TOLD:
                return HEIR;
            default:
                return WEARER;
        }
    }

    /** The line below is a count of WEARERS, so no common divisor is above it. */
    private static long ofLowestTerms(int above, int below, int part) {
        int divisor = 1;
        for (int d = 2; d <= below; d++) {
            if (above % d == 0 && below % d == 0) {
                divisor = d;
            }
        }
        return (part == 0 ? above : below) / divisor;
    }

    private boolean isMoreHurt(int p) {
        return trial.wearers[p].hurt > now.wearers[p].hurt;
    }

    private int daysUntilSore(int p) {
        trial.become(now);
        for (int days = 1; days <= 60; days++) {
            trial.go(1, p);
            if (isMoreHurt(p)) {
                return days;
            }
        }
        return UNMET;
    }

    /**
     * No WEARER changes how another fares, and HURT never falls: so each one who would be hurt must be
     * mended, and nobody else need be. That set alone can be the smallest.
     */
    private int fewestToMend(int n) {
        trial.become(now);
        trial.go(n, ALL);
        int hurtAsIs = moreHurtBits();
        trial.become(now);
        for (int p = 0; p < trial.wearerCount; p++) {
            trial.wearers[p].cover = MOST_COVER;
        }
        trial.go(n, ALL);
        return (hurtAsIs & moreHurtBits()) == 0 ? hurtAsIs : UNMET;
    }

    private int moreHurtBits() {
        int bits = 0;
        for (int p = 0; p < now.wearerCount; p++) {
            if (isMoreHurt(p)) {
                bits |= 1 << p;
            }
        }
        return bits;
    }

    private int bestChange(int n) {
        trial.become(now);
        trial.go(n, ALL);
        int least = trial.hurtOfAll();
        int found = UNMET;
        for (int p = 0; p < now.wearerCount; p++) {
            for (int q = p + 1; q < now.wearerCount; q++) {
                trial.become(now);
                trial.wearers[p].cover = now.wearers[q].cover;
                trial.wearers[q].cover = now.wearers[p].cover;
                trial.go(n, ALL);
                int hurt = trial.hurtOfAll();
                if (hurt < least) {
                    least = hurt;
                    found = 10 * p + q;
                }
            }
        }
        return found;
    }

    private int bestTarget(int saying, int n) {
        int least = 0;
        int found = UNMET;
        for (int p = 0; p < now.wearerCount; p++) {
            trial.become(now);
            trial.sayings[saying].target = p;
            trial.go(n, ALL);
            int hurt = trial.hurtOfAll();
            if (found == UNMET || hurt < least) {
                least = hurt;
                found = p;
            }
        }
        return found;
    }

    /**
     * COVERS by SEEN, or numbers v by SORES: how many of WEARER p there are, or the least. Whatever is tried at p,
     * the rows of the others fit or don't, so these are looked at once.
     */
    private int fitting(boolean isSeen, int p, boolean isLeast) {
        int most = isSeen ? MOST_COVER : MOST_V;
        int found = 0;
        trial.become(now);
        boolean othersFit = rowsFit(isSeen, p, false);
        for (int x = 0; othersFit && x <= most; x++) {
            trial.becomeOne(now, p);
            if (isSeen) {
                trial.wearers[p].cover = x;
            } else {
                trial.wearers[p].v = x;
            }
            if (rowsFit(isSeen, p, true)) {
                if (isLeast) {
                    return x;
                }
                found++;
            }
        }
        return isLeast ? UNMET : found;
    }

    /** Lets days go in the trial, and looks at the rows of WEARER p, or at those of all but p. */
    private boolean rowsFit(boolean isSeen, int p, boolean isOfOne) {
        Rows rows = isSeen ? hand.seen : hand.sores;
        int last = rows.lastDay();
        for (int day = 0; day <= last; day++) {
            if (day > 0) {
                trial.go(1, isOfOne ? p : ALL);
            }
            for (int i = 0; i < rows.count; i++) {
                boolean isAsked = rows.sort[i] == day && (rows.who[i] == p) == isOfOne;
                if (isAsked && trialValue(rows.who[i], isSeen) != rows.value[i]) {
                    return false;
                }
            }
        }
        return true;
    }

    private int trialValue(int p, boolean isSeen) {
        return isSeen ? trial.wearers[p].cover : isMoreHurt(p) ? 1 : 0;
    }

    private void followPlan(int what, int n) {
        switch (what) {
            case 0:
                trial.go(1, ALL);
                break;
            case 1:
                trial.wearers[n].cover = MOST_COVER;
                break;
            case 2:
                trial.sayings[n].target = UNMET;
                break;
            default:
                trial.wearers[n].hurt = 0;
                break;
        }
    }

    // ---- classes inside

    private static final class Wearer {
        final int number;
        final int[] parts = new int[4];
        int kind = WEARER;
        int v = 0;
        int cover = 0;
        int dents = 0;
        int hurt = 0;

        Wearer(int number) {
            this.number = number;
        }

        void begin(int kind, int v, int cover) {
            this.kind = kind;
            this.v = v;
            this.cover = cover;
            dents = 0;
            hurt = 0;
            for (int i = 0; i < parts.length; i++) {
                parts[i] = 0;
            }
        }

        void become(Wearer other) {
            kind = other.kind;
            v = other.v;
            cover = other.cover;
            dents = other.dents;
            hurt = other.hurt;
            System.arraycopy(other.parts, 0, parts, 0, parts.length);
        }

        int guardBy(int sum, int saying) {
            int fromDents = Math.min(dents / 5, 9);
            switch (kind) {
                case CLERK:
                    return sum + v;
                case SOFT:
                    return sum / 2;
                case HEIR:
                    return sum + fromDents;
                case BANKER:
                    return cover >= 50 ? 2 * (sum + v) : sum + v;
                case KETTLE:
                    return sum / 2 + 10;
                case TOLD:
                    return sum + fromDents + parts[saying & 3] - 4;
                default:
                    return sum;
            }
        }
    }

    private static final class Saying {
        int hard = 0;
        int every = 1;
        int target = UNMET;

        void become(Saying other) {
            hard = other.hard;
            every = other.every;
            target = other.target;
        }
    }

    /** WEARERS, SAYINGS, the DAY and the CITY that holds: as they are, as they are tried, or as they were. */
    private static final class World {
        final Wearer[] wearers = new Wearer[MOST_WEARERS];
        final Saying[] sayings = new Saying[MOST_SAYINGS];
        int wearerCount = 0;
        int sayingCount = 0;
        int day = 0;
        /** At first one without CLAUSES. */
        City city = new City();

        World() {
            for (int p = 0; p < wearers.length; p++) {
                wearers[p] = new Wearer(p);
            }
            for (int s = 0; s < sayings.length; s++) {
                sayings[s] = new Saying();
            }
        }

        void become(World other) {
            wearerCount = other.wearerCount;
            sayingCount = other.sayingCount;
            day = other.day;
            city = other.city;
            for (int p = 0; p < wearerCount; p++) {
                wearers[p].become(other.wearers[p]);
            }
            for (int s = 0; s < sayingCount; s++) {
                sayings[s].become(other.sayings[s]);
            }
        }

        /** The DAY and one WEARER again, where nothing else has been tried or looked at. */
        void becomeOne(World other, int p) {
            day = other.day;
            wearers[p].become(other.wearers[p]);
        }

        boolean hasWearer(int p) {
            return p >= 0 && p < wearerCount;
        }

        boolean hasSaying(int s) {
            return s >= 0 && s < sayingCount;
        }

        int addWearer(int kind, int v, int cover) {
            if (wearerCount >= wearers.length) {
                return FULL;
            }
            wearers[wearerCount].begin(kind, v, cover);
            wearerCount++;
            return wearerCount - 1;
        }

        int addSaying(int hard, int every) {
            if (sayingCount >= sayings.length) {
                return FULL;
            }
            Saying s = sayings[sayingCount];
            s.hard = hard;
            s.every = every;
            s.target = UNMET;
            sayingCount++;
            return sayingCount - 1;
        }

        boolean isStriking(Saying s) {
            return hasWearer(s.target) && s.every > 0 && day % s.every == 0;
        }

        int strikingBits() {
            int bits = 0;
            for (int s = 0; s < sayingCount; s++) {
                if (isStriking(sayings[s])) {
                    bits |= 1 << s;
                }
            }
            return bits;
        }

        int guard(Wearer w, int saying) {
            return w.guardBy(city.sum(w, saying, day), saying);
        }

        /** Lets n DAYS go for all, or for one alone: the others then stay as they are. */
        void go(int n, int one) {
            for (int i = 0; i < n; i++) {
                for (int s = 0; s < sayingCount; s++) {
                    if ((one == ALL || sayings[s].target == one) && isStriking(sayings[s])) {
                        strike(s);
                    }
                }
                day++;
            }
        }

        void strike(int saying) {
            Saying s = sayings[saying];
            Wearer w = wearers[s.target];
            int bite = Math.min(Math.max(s.hard - guard(w, saying), 0), 99);
            w.hurt = Math.min(w.hurt + bite, MOST_TOLL);
            w.dents = Math.min(w.dents + 1, MOST_TOLL);
            w.cover = Math.max(w.cover - city.rub, 0);
        }

        int hurtOfAll() {
            int sum = 0;
            for (int p = 0; p < wearerCount; p++) {
                sum += wearers[p].hurt;
            }
            return sum;
        }

        int coverOfAll() {
            int sum = 0;
            for (int p = 0; p < wearerCount; p++) {
                sum += wearers[p].cover;
            }
            return sum;
        }
    }

    /**
     * What the CLAUSES say, as steps one behind the other: a TEST lays a bit on a pile, AND and OR take two and
     * lay one, NOT turns the topmost, and ADD takes it and brings its number to the SUM if it is set.
     */
    private static final class City {
        static final int AND = 18, OR = 19, NOT = 20, ADD = 21;
        static final int DEFAULT_RUB = 3;

        final int[] steps = new int[MOST_TEXT];
        final int[] numbers = new int[MOST_TEXT];
        final int[] letters = new int[6];
        int stepCount = 0;
        int rub = DEFAULT_RUB;

        void clear() {
            stepCount = 0;
            rub = DEFAULT_RUB;
        }

        void put(int step, int number) {
            if (stepCount < steps.length) {
                steps[stepCount] = step;
                numbers[stepCount] = number;
                stepCount++;
            }
        }

        int sum(Wearer w, int saying, int day) {
            letters[0] = w.number;
            letters[1] = w.kind;
            letters[2] = w.v;
            letters[3] = saying;
            letters[4] = w.cover / 10;
            letters[5] = day % 10;
            int sum = w.cover / 5;
            int pile = 0;
            for (int i = 0; i < stepCount; i++) {
                int number = numbers[i];
                switch (steps[i]) {
                    case AND:
                        pile = (pile >> 1) & (pile | -2);
                        break;
                    case OR:
                        pile = (pile >> 1) | (pile & 1);
                        break;
                    case NOT:
                        pile ^= 1;
                        break;
                    case ADD:
                        sum += (pile & 1) * number;
                        pile = 0;
                        break;
                    default:
                        int letter = letters[steps[i] / 3];
                        int relation = letter < number ? 0 : letter == number ? 1 : 2;
                        pile = (pile << 1) | (relation == steps[i] % 3 ? 1 : 0);
                        break;
                }
            }
            return sum;
        }
    }

    /** THE TEXT, and how it becomes a CITY. Where a method answers no, the place is that of the FAULT. */
    private static final class Reader {
        /** In the order of the CITY's letters. */
        static final String LETTERS = "pkvscd";
        static final String RELATIONS = "<=>";

        final byte[] text = new byte[MOST_TEXT];
        int length = 0;
        int place = 0;

        int takes(int sign) {
            if (length >= text.length) {
                return FULL;
            }
            text[length] = (byte) sign;
            length++;
            return length;
        }

        boolean makes(City city) {
            city.clear();
            place = 0;
            for (int i = 0; i < MOST_CLAUSES; i++) {
                if (i > 0 && !isSign(';')) {
                    return false;
                }
                if (!isClause(city)) {
                    return false;
                }
                if (place == length) {
                    return true;
                }
            }
            return false;
        }

        boolean isClause(City city) {
            if (isSign('r')) {
                int rub = isWord("ub ") ? number() : -1;
                if (rub < 0) {
                    return false;
                }
                city.rub = rub;
                return true;
            }
            boolean isFirm = isSign('f');
            if (!isFirm && !isSign('w')) {
                return false;
            }
            int n = isWord(isFirm ? "irm " : "eak ") ? number() : -1;
            if (n < 0 || !isSign(' ') || !isEither(city, 0)) {
                return false;
            }
            city.put(City.ADD, isFirm ? n : -n);
            return true;
        }

        /** E; depth is within how many ( and ! it stands. */
        private boolean isEither(City city, int depth) {
            for (int i = 0; i < text.length; i++) {
                if (!isBoth(city, depth)) {
                    return false;
                }
                if (i > 0) {
                    city.put(City.OR, 0);
                }
                if (!isSign('|')) {
                    return true;
                }
            }
            return false;
        }

        /** T. */
        private boolean isBoth(City city, int depth) {
            for (int i = 0; i < text.length; i++) {
                if (!isFactor(city, depth)) {
                    return false;
                }
                if (i > 0) {
                    city.put(City.AND, 0);
                }
                if (!isSign('&')) {
                    return true;
                }
            }
            return false;
        }

        /** F. */
        private boolean isFactor(City city, int depth) {
            if (depth < MOST_DEPTH && isSign('!')) {
                if (!isFactor(city, depth + 1)) {
                    return false;
                }
                city.put(City.NOT, 0);
                return true;
            }
            if (depth < MOST_DEPTH && isSign('(')) {
                return isEither(city, depth + 1) && isSign(')');
            }
            int letter = signOf(LETTERS);
            int relation = letter < 0 ? -1 : signOf(RELATIONS);
            int n = relation < 0 ? -1 : number();
            if (n < 0) {
                return false;
            }
            city.put(letter * 3 + relation, n);
            return true;
        }

        /** One digit or two; -1 if there is none. */
        int number() {
            int n = -1;
            for (int i = 0; i < 2 && place < length && text[place] >= '0' && text[place] <= '9'; i++) {
                n = Math.max(n, 0) * 10 + text[place] - '0';
                place++;
            }
            return n;
        }

        /** Steps over a sign that stands among these: its place there, or -1. */
        int signOf(String signs) {
            int found = place < length ? signs.indexOf((char) text[place]) : -1;
            if (found >= 0) {
                place++;
            }
            return found;
        }

        boolean isWord(String word) {
            for (int i = 0; i < word.length(); i++) {
                if (!isSign(word.charAt(i))) {
                    return false;
                }
            }
            return true;
        }

        boolean isSign(char sign) {
            if (place >= length || text[place] != sign) {
                return false;
            }
            place++;
            return true;
        }
    }

    /** Rows told by hand: of whom, of which sort or DAY, and the value. */
    private static final class Rows {
        final int[] who;
        final int[] sort;
        final int[] value;
        int count = 0;

        Rows(int most) {
            int size = Math.max(most, 0);
            who = new int[size];
            sort = new int[size];
            value = new int[size];
        }

        int empty() {
            count = 0;
            return 0;
        }

        int add(int newWho, int newSort, int newValue) {
            if (count >= who.length) {
                return FULL;
            }
            who[count] = newWho;
            sort[count] = newSort;
            value[count] = newValue;
            count++;
            return count;
        }

        /** Of rows whose sort is a DAY; -1 without rows. */
        int lastDay() {
            int last = -1;
            for (int i = 0; i < count; i++) {
                last = Math.max(last, sort[i]);
            }
            return last;
        }

        /** Only from rows of the same size. */
        void become(Rows other) {
            count = Math.min(other.count, who.length);
            System.arraycopy(other.who, 0, who, 0, count);
            System.arraycopy(other.sort, 0, sort, 0, count);
            System.arraycopy(other.value, 0, value, 0, count);
        }
    }

    /** All that is told by hand. */
    private static final class Hand {
        final Rows seen = new Rows(5);
        final Rows sores = new Rows(5);
        final Rows plan = new Rows(10);
        final Rows book = new Rows(8);

        void become(Hand other) {
            seen.become(other.seen);
            sores.become(other.sores);
            plan.become(other.plan);
            book.become(other.book);
        }
    }

    /**
     * The bodies of the ACTS, and THE TRACE that they leave; more bodies may run than are kept.
     *
     * "from" is the KIND at which the search for a body begins: the WEARER's own, or, by super, the KIND above the
     * body's. By super it comes nearer to WEARER each time, and from there tells calls knocks, knocks calls nods,
     * and nods calls none: so few calls stand open at once.
     */
    private static final class Trail {
        final int[] bodies = new int[MOST_KEPT];
        int ran = 0;

        void begins(int body) {
            if (ran < bodies.length) {
                bodies[ran] = body;
            }
            ran++;
        }

        private static int nods(Wearer w, int from, int x, Trail trail) {
            switch (from) {
                case SOFT:
                case KETTLE:
                    trail.begins(30);
                    return nods(w, WEARER, x * 3, trail);
                case BANKER:
                    trail.begins(50);
                    return -nods(w, CLERK, x, trail);
                case TOLD:
                    trail.begins(71);
                    return nods(w, HEIR, x, trail) ^ w.v;
                default:
                    trail.begins(10);
                    return x + w.number;
            }
        }

        private static int knocks(Wearer w, int from, int x, Trail trail) {
            switch (from) {
                case CLERK:
                    trail.begins(20);
                    return knocks(w, WEARER, x, trail) ^ 6;
                case BANKER:
                    trail.begins(51);
                    return knocks(w, CLERK, x + 1, trail);
                case TOLD:
                    trail.begins(70);
                    int left = knocks(w, HEIR, x, trail);
                    return left + nods(w, HEIR, 2, trail);
                default:
                    trail.begins(11);
                    return nods(w, w.kind, x, trail) - w.v;
            }
        }

        private static int tells(Wearer w, int from, int x, Trail trail) {
            switch (from) {
                case HEIR:
                case TOLD:
                    trail.begins(40);
                    int left = tells(w, WEARER, x, trail);
                    return left + knocks(w, w.kind, 1, trail);
                case KETTLE:
                    trail.begins(60);
                    return tells(w, SOFT, x - w.number, trail);
                default:
                    trail.begins(12);
                    return knocks(w, w.kind, x, trail) * 2;
            }
        }
    }

    /** A TAPE: every sort is kept as longs that have been cut to it. */
    private static final class Strip {
        final long[] items = new long[MOST_ITEMS];
        int sort = EMPTY;
        int length = 0;

        void become(int newSort, int newLength) {
            sort = newSort;
            length = newLength;
            for (int i = 0; i < items.length; i++) {
                items[i] = 0;
            }
        }

        boolean holds(int from, int n) {
            return from >= 0 && n >= 0 && n <= length && from <= length - n;
        }

        long fitted(long v) {
            switch (sort) {
                case BYTES:
                    return (byte) v;
                case SHORTS:
                    return (short) v;
                case INTS:
                    return (int) v;
                case BOOLEANS:
                    return v != 0 ? 1 : 0;
                default:
                    return v;
            }
        }
    }
}
