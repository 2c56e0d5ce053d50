import java.util.NoSuchElementException;

public final class SafeSenate {
    public static final int NONE = -1;

    /** The document's -2: the question is fine, but nothing answers it. */
    private static final int NOTHING = -2;
    private static final int NO_WIRE = -100;

    private static final int TAPE_ROOM = 900;
    private static final int FEED = 20;
    private static final int MOST_HOOKS = 6;
    private static final int MOST_SENATORS = 6;
    private static final int MOST_ACTS = 5;
    private static final int MOST_FORS = 15;
    private static final int MOST_RESTS = 6;
    private static final int MOST_NAMES = MOST_HOOKS + MOST_SENATORS + MOST_ACTS;
    private static final int MOST_UNDONE = 16;
    private static final int MOST_IMAGES = 3;

    private static final int LAST_ACT_DAY = 40;
    private static final int NOT_OFF_YET = LAST_ACT_DAY + 1;
    private static final int LAST_DAY = 99;
    private static final int MOST_SPAN = 99;
    private static final int MOST_AHEAD = 60;
    private static final int MOST_DRAWN = 99;
    private static final int MOST_CHANCES = 6;
    private static final int MOST_WORTH = 20;
    private static final int THUNDER_LOSS = 3;
    private static final int SEEDS = 65537;
    private static final int HUNDRED = 100;
    private static final int LEAD_BASE = 1000;

    private static final int FRESH = 0;
    private static final int SALTED = 1;
    private static final int COLD = 2;

    private static final int NO_TROUBLE = 0;
    private static final int NO_SUCH = 1;
    private static final int BAD_NUMBER = 2;
    private static final int NO_ROOM = 3;
    private static final int FAULTY = 4;
    private static final int NOT_SO = 5;
    private static final int EMPTY = 6;

    private static final int FAULT_FORM = 1;
    private static final int FAULT_UNTOLD = 2;
    private static final int FAULT_AGAIN = 3;
    private static final int FAULT_BOUNDS = 4;
    private static final int FAULT_MANY = 5;
    private static final int FAULT_LACKS = 6;
    private static final int FAULT_HUNG = 7;

    private static final int TOKEN_END = 0;
    private static final int TOKEN_WORD = 1;
    private static final int TOKEN_WHOLE = 2;
    private static final int TOKEN_SEMICOLON = 3;
    private static final int TOKEN_BAD = 4;

    /** The first nine begin LINES and are no NAMES; the others may be NAMES too. */
    private static final int KEY_NONE = 0;
    private static final int KEY_SAFE = 1;
    private static final int KEY_HOOK = 2;
    private static final int KEY_SENATOR = 3;
    private static final int KEY_ACT = 4;
    private static final int KEY_FOR = 5;
    private static final int KEY_RESTS = 6;
    private static final int KEY_DOUBTED = 7;
    private static final int KEY_WENT = 8;
    private static final int KEY_FELL = 9;
    private static final int KEY_QUORUM = 10;
    private static final int KEY_HEAT = 11;
    private static final int KEY_THUNDER = 12;
    private static final int KEY_SALT = 13;
    private static final int KEY_AIR = 14;
    private static final int KEY_AT = 15;
    private static final int KEY_GOOD = 16;
    private static final int KEY_VOTES = 17;
    private static final int KEY_DAY = 18;
    private static final int KEY_FRESH = 19;
    private static final int KEY_SALTED = 20;
    private static final int KEY_COLD = 21;
    private static final int MOST_KEYS = KEY_COLD;
    /** In the order of their numbers. */
    private static final String KEY_TEXTS =
        "safe hook senator act for rests doubted went fell quorum heat thunder salt air at good votes day fresh salted cold";
    private static final int LONGEST_WORD = 8;
    private static final int LONGEST_WHOLE = 3;

    private final Parser parser = new Parser();
    private Plan plan = new Plan();
    private final Moment now = new Moment();
    private final Undoing undoing = new Undoing();
    private final Moment[] images = new Moment[MOST_IMAGES];
    private int imageCount;
    private int latestTrouble;
    private int latestFault;
    private int faultPlace;
    private final Spans spans = new Spans();
    private final Hanging hanging = new Hanging();
    private final Doubt doubt = new Doubt();

    public SafeSenate() {
        for (int i = 0; i < MOST_IMAGES; i++) {
            images[i] = new Moment();
        }
    }

    // ---- the safe

    public int feed(int a, int b, int c, int d, int e) {
        Reader tape = parser.reader;
        if (tape.length + FEED > TAPE_ROOM) {
            return NONE;
        }
        tape.put(a);
        tape.put(b);
        tape.put(c);
        tape.put(d);
        tape.put(e);
        return tape.length;
    }

    public int safe(int n) {
        if (outside(n, parser.reader.length)) {
            return refuse(BAD_NUMBER);
        }
        boolean sound = parser.hear(n);
        parser.reader.length = 0;
        latestFault = parser.fault;
        faultPlace = parser.place;
        if (!sound) {
            return refuse(FAULTY);
        }
        plan = parser.exchange(plan);
        now.copyFrom(plan.first);
        undoing.clear();
        imageCount = 0;
        return grant(plan.senatorCount);
    }

    public int fault() {
        return latestFault;
    }

    public int where() {
        return latestTrouble == FAULTY ? faultPlace : NONE;
    }

    // ---- now

    public int senator(int s, int what) {
        if (lacksSenator(s) || outside(what, 5)) {
            return refuse(NO_SUCH);
        }
        switch (what) {
            case 0:
                return grant(now.kind[s]);
            case 1:
                return grant(now.hookOf[s]);
            case 2:
                return grant(now.left[s]);
            case 3:
                return grant(plan.votes[s]);
            case 4:
                return grant(plan.actsOf(s));
            default:
                return grant(plan.lossBehind(now, s, 1));
        }
    }

    public int hook(int h, int what) {
        if (h < 0 || h >= plan.hookCount || outside(what, 1)) {
            return refuse(NO_SUCH);
        }
        return grant(what == 0 ? plan.air[h] : now.whoHangsAt(h, plan.senatorCount));
    }

    public int act(int a, int what) {
        if (lacksAct(a) || outside(what, 3)) {
            return refuse(NO_SUCH);
        }
        switch (what) {
            case 0:
                return grant(plan.actDay[a]);
            case 1:
                return grant(plan.actFor[a]);
            case 2:
                return grant(plan.actRests[a]);
            default:
                return grant(goingNow() >> a & 1);
        }
    }

    public int good() {
        if (lacksSafe()) {
            return refuse(NO_SUCH);
        }
        return grant(goodNow());
    }

    public int quorum() {
        if (lacksSafe()) {
            return refuse(NO_SUCH);
        }
        return grant(Integer.bitCount(goodNow()) >= plan.quorum ? 1 : 0);
    }

    // ---- days to come

    public int goodIn(int s, int n) {
        if (lacksSenator(s)) {
            return refuse(NO_SUCH);
        }
        if (outside(n, MOST_AHEAD)) {
            return refuse(BAD_NUMBER);
        }
        return grant(now.left[s] - plan.lossBehind(now, s, n));
    }

    public int offIn(int s) {
        if (lacksSenator(s)) {
            return refuse(NO_SUCH);
        }
        int days = plan.goodDays(now, s, now.kind[s], now.hookOf[s]);
        return grant(days <= MOST_AHEAD ? days : NOTHING);
    }

    public int lasts() {
        if (lacksSafe()) {
            return refuse(NO_SUCH);
        }
        return grant(lastsNow());
    }

    public int going() {
        if (lacksSafe()) {
            return refuse(NO_SUCH);
        }
        return grant(goingNow());
    }

    public int nextAct() {
        if (lacksSafe()) {
            return refuse(NO_SUCH);
        }
        int next = NOTHING;
        int nextDay = LAST_ACT_DAY + 1;
        for (int a = 0; a < plan.actCount; a++) {
            if (plan.actDay[a] >= now.day && plan.actDay[a] < nextDay) {
                next = a;
                nextDay = plan.actDay[a];
            }
        }
        return grant(next);
    }

    public int margin(int a) {
        if (lacksAct(a)) {
            return refuse(NO_SUCH);
        }
        if (plan.actDay[a] < now.day) {
            return refuse(NOT_SO);
        }
        spans.fill(plan, now);
        int goodThen = spans.goodAfter(plan.actDay[a] - now.day, plan.senatorCount);
        return grant(plan.leadOf(a, goodThen) + LEAD_BASE);
    }

    // ---- hung elsewhere

    public int hang(int n) {
        if (lacksSafe()) {
            return refuse(NO_SUCH);
        }
        if (outside(n, MOST_AHEAD)) {
            return refuse(BAD_NUMBER);
        }
        hanging.forMostGood(plan, now, n);
        return grant(hanging.best);
    }

    public int hangAt(int s, int n) {
        if (lacksSenator(s)) {
            return refuse(NO_SUCH);
        }
        if (outside(n, MOST_AHEAD)) {
            return refuse(BAD_NUMBER);
        }
        hanging.forMostGood(plan, now, n);
        return grant(hanging.bestAt[s]);
    }

    public int longest() {
        if (lacksSafe()) {
            return refuse(NO_SUCH);
        }
        hanging.forLongest(plan, now);
        return grant(hanging.best);
    }

    public int longestAt(int s) {
        if (lacksSenator(s)) {
            return refuse(NO_SUCH);
        }
        hanging.forLongest(plan, now);
        return grant(hanging.bestAt[s]);
    }

    public int bestSwap() {
        if (lacksSafe()) {
            return refuse(NO_SUCH);
        }
        int most = lastsNow();
        int two = NOTHING;
        for (int s = 0; s < plan.senatorCount; s++) {
            for (int t = s + 1; t < plan.senatorCount; t++) {
                int days = lastsSwapped(s, t);
                if (days > most) {
                    most = days;
                    two = 10 * s + t;
                }
            }
        }
        return grant(two);
    }

    public int toSalt() {
        if (lacksSafe()) {
            return refuse(NO_SUCH);
        }
        if (now.salt == 0) {
            return grant(NOTHING);
        }
        int most = lastsNow();
        int one = NOTHING;
        for (int s = 0; s < plan.senatorCount; s++) {
            int days = lastsSalted(s);
            if (now.kind[s] != SALTED && days > most) {
                most = days;
                one = s;
            }
        }
        return grant(one);
    }

    public int keyMan() {
        if (lacksSafe()) {
            return refuse(NO_SUCH);
        }
        spans.fill(plan, now);
        int fewest = MOST_ACTS + 1;
        int one = NOTHING;
        for (int s = 0; s < plan.senatorCount; s++) {
            int kept = spans.days[s];
            spans.days[s] = 0;
            int goes = Integer.bitCount(plan.goingAmong(plan.goingAlone(now, spans)));
            spans.days[s] = kept;
            if (goes < fewest) {
                fewest = goes;
                one = s;
            }
        }
        return grant(one);
    }

    // ---- the doubted one

    public int since() {
        if (lacksDoubt()) {
            return refuse(whyNoDoubt());
        }
        doubt.weigh(plan);
        return grant(doubt.count);
    }

    public int sinceAt(int i) {
        if (lacksDoubt()) {
            return refuse(whyNoDoubt());
        }
        doubt.weigh(plan);
        if (i < 0 || i >= doubt.count) {
            return refuse(NO_SUCH);
        }
        return grant(doubt.fitting(i));
    }

    public int look() {
        if (lacksDoubt()) {
            return refuse(whyNoDoubt());
        }
        doubt.weigh(plan);
        return grant(doubt.actToAsk(plan.actCount));
    }

    public int lookLeaves() {
        if (lacksDoubt()) {
            return refuse(whyNoDoubt());
        }
        doubt.weigh(plan);
        int asked = doubt.actToAsk(plan.actCount);
        return grant(asked == NOTHING ? NOTHING : doubt.leftBy(asked));
    }

    public int judge() {
        if (lacksSafe()) {
            return refuse(NO_SUCH);
        }
        spans.fill(plan, plan.first);
        int goes = plan.goingAmong(plan.goingAlone(plan.first, spans));
        int belied = plan.went & ~goes | plan.fell & goes;
        return grant(belied == 0 ? NOTHING : Integer.numberOfTrailingZeros(belied));
    }

    // ---- acts that rest

    public int fallsWith(int a) {
        if (lacksAct(a)) {
            return refuse(NO_SUCH);
        }
        return grant(plan.fallingWith(a));
    }

    public int strike(int a) {
        if (lacksAct(a)) {
            return refuse(NO_SUCH);
        }
        spans.fill(plan, now);
        int alone = plan.goingAlone(now, spans);
        if ((alone >> a & 1) == 0) {
            return grant(NOTHING);
        }
        return grant(fewestStruck(a, alone));
    }

    public int keystone() {
        if (lacksSafe()) {
            return refuse(NO_SUCH);
        }
        int most = 0;
        int one = NOTHING;
        for (int a = 0; a < plan.actCount; a++) {
            int falling = Integer.bitCount(plan.fallingWith(a));
            if (falling > most) {
                most = falling;
                one = a;
            }
        }
        return grant(one);
    }

    public int ring() {
        if (lacksSafe()) {
            return refuse(NO_SUCH);
        }
        int ringed = 0;
        for (int a = 0; a < plan.actCount; a++) {
            ringed |= plan.restsOn(a, 0) >> a & 1;
        }
        return grant(ringed);
    }

    // ---- power

    public long power(int s, boolean lower) {
        if (lacksSenator(s)) {
            return refuse(NO_SUCH);
        }
        int good = goodNow();
        if ((good >> s & 1) == 0) {
            return refuse(NOT_SO);
        }
        latestTrouble = NO_TROUBLE;
        return reduced(plan.swingsOf(s, good), 1L << (Integer.bitCount(good) - 1), lower);
    }

    public int strongest() {
        if (lacksSafe()) {
            return refuse(NO_SUCH);
        }
        int good = goodNow();
        int most = -1;
        int one = NOTHING;
        for (int s = 0; s < plan.senatorCount; s++) {
            int swings = (good >> s & 1) == 0 ? -1 : plan.swingsOf(s, good);
            if (swings > most) {
                most = swings;
                one = s;
            }
        }
        return grant(one);
    }

    // ---- two wires

    public int wire(int worth, boolean one, boolean other, boolean ofOther) {
        if (lacksSafe()) {
            refuse(NO_SUCH);
            return NO_WIRE;
        }
        if (outside(worth, MOST_WORTH)) {
            refuse(BAD_NUMBER);
            return NO_WIRE;
        }
        return grant(ofOther ? share(worth, other, one) : share(worth, one, other));
    }

    public int rests(int worth) {
        if (lacksSafe()) {
            return refuse(NO_SUCH);
        }
        if (outside(worth, MOST_WORTH)) {
            return refuse(BAD_NUMBER);
        }
        int count = 0;
        for (int pair = 0; pair < 4; pair++) {
            if (isRest(worth, pair)) {
                count++;
            }
        }
        return grant(count);
    }

    public int rest(int worth) {
        if (lacksSafe()) {
            return refuse(NO_SUCH);
        }
        if (outside(worth, MOST_WORTH)) {
            return refuse(BAD_NUMBER);
        }
        for (int pair = 0; pair < 4; pair++) {
            if (isRest(worth, pair)) {
                return grant(pair / 2 * 10 + pair % 2);
            }
        }
        return grant(NOTHING);
    }

    // ---- thunder

    public long odds(int n, boolean lower) {
        if (lacksSafe()) {
            return refuse(NO_SUCH);
        }
        if (outside(n, MOST_CHANCES)) {
            return refuse(BAD_NUMBER);
        }
        long upper = 0;
        for (int k = 0; k <= n; k++) {
            if (Integer.bitCount(plan.goodAfter(now, n, k)) >= plan.quorum) {
                upper += plan.chancesOf(k, n);
            }
        }
        latestTrouble = NO_TROUBLE;
        return reduced(upper, powerOf(HUNDRED, n), lower);
    }

    public long goodOdds(int s, int n, boolean lower) {
        if (lacksSenator(s)) {
            return refuse(NO_SUCH);
        }
        if (outside(n, MOST_CHANCES)) {
            return refuse(BAD_NUMBER);
        }
        long upper = 0;
        for (int k = 0; k <= n; k++) {
            upper += plan.chancesOf(k, n) * (plan.goodAfter(now, n, k) >> s & 1);
        }
        latestTrouble = NO_TROUBLE;
        return reduced(upper, powerOf(HUNDRED, n), lower);
    }

    public long mean(int n, boolean lower) {
        if (lacksSafe()) {
            return refuse(NO_SUCH);
        }
        if (outside(n, MOST_CHANCES)) {
            return refuse(BAD_NUMBER);
        }
        long upper = 0;
        for (int k = 0; k <= n; k++) {
            upper += plan.chancesOf(k, n) * Integer.bitCount(plan.goodAfter(now, n, k));
        }
        latestTrouble = NO_TROUBLE;
        return reduced(upper, powerOf(HUNDRED, n), lower);
    }

    // ---- days by draws

    public int days(int seed, int n) {
        if (lacksSafe()) {
            return refuse(NO_SUCH);
        }
        if (outside(seed, SEEDS - 1) || outside(n, MOST_DRAWN)) {
            return refuse(BAD_NUMBER);
        }
        return grant(plan.goodAfter(now, n, plan.thundersDrawn(seed, n)));
    }

    public int thunders(int seed, int n) {
        if (lacksSafe()) {
            return refuse(NO_SUCH);
        }
        if (outside(seed, SEEDS - 1) || outside(n, MOST_DRAWN)) {
            return refuse(BAD_NUMBER);
        }
        return grant(plan.thundersDrawn(seed, n));
    }

    // ---- acts

    public int day() {
        if (lacksSafe()) {
            return refuse(NO_SUCH);
        }
        if (now.day >= LAST_DAY) {
            return refuse(NO_ROOM);
        }
        undoing.keep(now);
        now.passDay(plan);
        return grant(goodNow());
    }

    public int move(int s, int h) {
        if (lacksSenator(s) || h < 0 || h >= plan.hookCount) {
            return refuse(NO_SUCH);
        }
        if (now.hookOf[s] == h) {
            return refuse(NOT_SO);
        }
        undoing.keep(now);
        int other = now.whoHangsAt(h, plan.senatorCount);
        if (other >= 0) {
            now.hookOf[other] = now.hookOf[s];
        }
        now.hookOf[s] = h;
        return grant(other);
    }

    public boolean salt(int s) {
        if (lacksSenator(s)) {
            return deny(NO_SUCH);
        }
        if (now.kind[s] == SALTED || now.left[s] == 0) {
            return deny(NOT_SO);
        }
        if (now.salt == 0) {
            return deny(EMPTY);
        }
        undoing.keep(now);
        now.kind[s] = SALTED;
        now.salt--;
        return allow();
    }

    public boolean seed(int v) {
        if (lacksSafe()) {
            return deny(NO_SUCH);
        }
        if (outside(v, SEEDS - 1)) {
            return deny(BAD_NUMBER);
        }
        now.seed = v;
        return allow();
    }

    public boolean undo() {
        if (undoing.count == 0) {
            return deny(EMPTY);
        }
        undoing.restore(now);
        return allow();
    }

    public int image() {
        if (lacksSafe()) {
            return refuse(NO_SUCH);
        }
        if (imageCount >= MOST_IMAGES) {
            return refuse(NO_ROOM);
        }
        images[imageCount].copyFrom(now);
        imageCount++;
        return grant(imageCount - 1);
    }

    public boolean back(int image) {
        if (image < 0 || image >= imageCount) {
            return deny(NO_SUCH);
        }
        now.copyFrom(images[image]);
        undoing.clear();
        return allow();
    }

    // ---- what is told

    public int led(int i) throws NoSuchElementException {
        int seen = 0;
        for (int s = 0; s < plan.senatorCount; s++) {
            if (now.left[s] == 0) {
                if (seen == i) {
                    return s;
                }
                seen++;
            }
        }
        throw new NoSuchElementException();
    }

    public int size(int what) {
        switch (what) {
            case 0:
                return plan.quorum;
            case 1:
                return plan.heat;
            case 2:
                return plan.thunder;
            case 3:
                return now.salt;
            case 4:
                return plan.hookCount;
            case 5:
                return plan.senatorCount;
            case 6:
                return plan.actCount;
            case 7:
                return plan.forCount;
            default:
                return sizeBehind(what);
        }
    }

    public int trouble() {
        return latestTrouble;
    }

    // ---- what the face leans on

    private int sizeBehind(int what) {
        switch (what) {
            case 8:
                return plan.restsCount;
            case 9:
                return plan.doubted >= 0 ? 1 : 0;
            case 10:
                return Integer.bitCount(plan.went | plan.fell);
            case 11:
                return now.day;
            case 12:
                return now.seed;
            case 13:
                return undoing.count;
            case 14:
                return imageCount;
            case 15:
                return parser.reader.length;
            default:
                return NONE;
        }
    }

    private int refuse(int why) {
        latestTrouble = why;
        return NONE;
    }

    private int grant(int answer) {
        latestTrouble = NO_TROUBLE;
        return answer;
    }

    private boolean deny(int why) {
        latestTrouble = why;
        return false;
    }

    private boolean allow() {
        latestTrouble = NO_TROUBLE;
        return true;
    }

    /** A SAFE has a senator at least, so a plan without one is that of a new object. */
    private boolean lacksSafe() {
        return plan.senatorCount == 0;
    }

    private boolean lacksSenator(int s) {
        return s < 0 || s >= plan.senatorCount;
    }

    private boolean lacksAct(int a) {
        return a < 0 || a >= plan.actCount;
    }

    private boolean lacksDoubt() {
        return plan.doubted < 0;
    }

    private int whyNoDoubt() {
        return lacksSafe() ? NO_SUCH : EMPTY;
    }

    private static boolean outside(int number, int most) {
        return number < 0 || number > most;
    }

    private int goodNow() {
        return now.goodBits(plan.senatorCount);
    }

    private int goingNow() {
        spans.fill(plan, now);
        return plan.goingAmong(plan.goingAlone(now, spans));
    }

    private int lastsNow() {
        spans.fill(plan, now);
        return spans.quorumDays(plan.senatorCount, plan.quorum);
    }

    private int lastsSwapped(int s, int t) {
        spans.fill(plan, now);
        spans.days[s] = plan.goodDays(now, s, now.kind[s], now.hookOf[t]);
        spans.days[t] = plan.goodDays(now, t, now.kind[t], now.hookOf[s]);
        return spans.quorumDays(plan.senatorCount, plan.quorum);
    }

    private int lastsSalted(int s) {
        spans.fill(plan, now);
        spans.days[s] = plan.goodDays(now, s, SALTED, now.hookOf[s]);
        return spans.quorumDays(plan.senatorCount, plan.quorum);
    }

    /** Sets come by rising bits, so the first of the fewest has the least bits. */
    private int fewestStruck(int a, int alone) {
        int fewest = MOST_ACTS + 1;
        int best = 0;
        for (int struck = 0; struck < 1 << plan.actCount; struck++) {
            boolean others = (struck >> a & 1) == 0;
            boolean holds = (plan.restsOn(a, struck) & ~alone) == 0;
            if (others && holds && Integer.bitCount(struck) < fewest) {
                fewest = Integer.bitCount(struck);
                best = struck;
            }
        }
        return best;
    }

    private static int share(int worth, boolean pushes, boolean otherPushes) {
        if (pushes) {
            return otherPushes ? worth / 2 - 2 : worth;
        }
        return otherPushes ? 1 : 0;
    }

    /** Pairs are numbered in the document's order: 2 if the one pushes, and 1 if the other one does. */
    private static boolean isRest(int worth, int pair) {
        boolean one = pair >= 2;
        boolean other = pair % 2 == 1;
        return share(worth, one, other) >= share(worth, !one, other)
            && share(worth, other, one) >= share(worth, !other, one);
    }

    private static long powerOf(int base, int exponent) {
        long product = 1;
        for (int i = 0; i < exponent; i++) {
            product *= base;
        }
        return product;
    }

    private static long reduced(long upper, long whole, boolean lower) {
        long common = commonDivisor(whole, upper);
        if (common <= 0) {
            return lower ? 1 : 0;
        }
        return lower ? whole / common : upper / common;
    }

    private static long commonDivisor(long a, long b) {
        long greater = a;
        long lesser = b;
        // a remainder at least halves every two steps, so a long is used up well within 200
        for (int i = 0; i < 200 && lesser != 0; i++) {
            long remainder = greater % lesser;
            greater = lesser;
            lesser = remainder;
        }
        return greater;
    }

    /** All that changes while a SAFE is used, so that copying it is all that undoing and images need. */
    static final class Moment {
        int day;
        int salt;
        int seed;
        final int[] kind = new int[MOST_SENATORS];
        final int[] hookOf = new int[MOST_SENATORS];
        final int[] left = new int[MOST_SENATORS];
        /** Who was GOOD on days gone by; no act is put later than these. */
        final int[] past = new int[LAST_ACT_DAY + 1];

        void copyFrom(Moment other) {
            day = other.day;
            salt = other.salt;
            seed = other.seed;
            System.arraycopy(other.kind, 0, kind, 0, MOST_SENATORS);
            System.arraycopy(other.hookOf, 0, hookOf, 0, MOST_SENATORS);
            System.arraycopy(other.left, 0, left, 0, MOST_SENATORS);
            System.arraycopy(other.past, 0, past, 0, LAST_ACT_DAY + 1);
        }

        int goodBits(int senators) {
            int bits = 0;
            for (int s = 0; s < senators && s < MOST_SENATORS; s++) {
                if (left[s] > 0) {
                    bits |= 1 << s;
                }
            }
            return bits;
        }

        int whoHangsAt(int h, int senators) {
            for (int s = 0; s < senators && s < MOST_SENATORS; s++) {
                if (hookOf[s] == h) {
                    return s;
                }
            }
            return NOTHING;
        }

        void passDay(Plan plan) {
            if (day >= 0 && day <= LAST_ACT_DAY) {
                past[day] = goodBits(plan.senatorCount);
            }
            seed = Plan.seedBehind(seed);
            boolean thunder = plan.isThunder(seed);
            for (int s = 0; s < plan.senatorCount && s < MOST_SENATORS; s++) {
                int loss = plan.lossOver(kind[s], hookOf[s], day, 1);
                if (thunder && kind[s] != SALTED) {
                    loss += THUNDER_LOSS;
                }
                left[s] = Math.max(0, left[s] - loss);
            }
            day++;
        }
    }

    /** The latest moments ahead of ACTS; when all places are taken the oldest gives way. */
    static final class Undoing {
        int count;
        private int next;
        private final Moment[] moments = new Moment[MOST_UNDONE];

        Undoing() {
            for (int i = 0; i < MOST_UNDONE; i++) {
                moments[i] = new Moment();
            }
        }

        void clear() {
            count = 0;
            next = 0;
        }

        void keep(Moment now) {
            moments[next].copyFrom(now);
            next = (next + 1) % MOST_UNDONE;
            count = Math.min(count + 1, MOST_UNDONE);
        }

        void restore(Moment now) {
            next = (next + MOST_UNDONE - 1) % MOST_UNDONE;
            count--;
            now.copyFrom(moments[next]);
        }
    }

    /** A SAFE as it was told. */
    static final class Plan {
        int quorum;
        int heat;
        int thunder;
        int hookCount;
        final int[] air = new int[MOST_HOOKS];
        int senatorCount;
        final int[] votes = new int[MOST_SENATORS];
        int actCount;
        final int[] actDay = new int[MOST_ACTS];
        final int[] actFor = new int[MOST_ACTS];
        final int[] actRests = new int[MOST_ACTS];
        int forCount;
        int restsCount;
        int doubted = NONE;
        int went;
        int fell;
        final Moment first = new Moment();

        /** What stands in the rows is told anew before the counts reach it; only sets must be emptied. */
        void clear() {
            hookCount = 0;
            senatorCount = 0;
            actCount = 0;
            forCount = 0;
            restsCount = 0;
            doubted = NONE;
            went = 0;
            fell = 0;
            for (int a = 0; a < MOST_ACTS; a++) {
                actFor[a] = 0;
                actRests[a] = 0;
            }
        }

        int actsOf(int s) {
            int bits = 0;
            for (int a = 0; a < actCount && a < MOST_ACTS; a++) {
                bits |= (actFor[a] >> s & 1) << a;
            }
            return bits;
        }

        private int airAt(int h) {
            return h >= 0 && h < MOST_HOOKS ? air[h] : 0;
        }

        /** What one of a kind loses in n days without THUNDER, were there no end to what he has. */
        int lossOver(int kind, int h, int fromDay, int n) {
            if (kind == SALTED) {
                boolean evenFirst = fromDay % 2 == 0;
                return (evenFirst ? n + 1 : n) / 2;
            }
            int loss = Math.max(1, heat - airAt(h));
            return n * (kind == COLD ? loss / 2 : loss);
        }

        /** What one loses in n days from the moment on without THUNDER: he has no more to lose than he is good for. */
        int lossBehind(Moment from, int s, int n) {
            return Math.min(from.left[s], lossOver(from.kind[s], from.hookOf[s], from.day, n));
        }

        /** On how many days from the moment on, itself the first, one would be GOOD so hung and of that kind. */
        int goodDays(Moment from, int s, int kind, int h) {
            for (int n = 0; n < MOST_SPAN; n++) {
                if (from.left[s] <= lossOver(kind, h, from.day, n)) {
                    return n;
                }
            }
            return MOST_SPAN;
        }

        /** Nobody gains days, so only how many THUNDERS there were counts, not when they were. */
        int goodAfter(Moment from, int n, int thunders) {
            int bits = 0;
            for (int s = 0; s < senatorCount && s < MOST_SENATORS; s++) {
                int loss = lossOver(from.kind[s], from.hookOf[s], from.day, n);
                if (from.kind[s] != SALTED) {
                    loss += THUNDER_LOSS * thunders;
                }
                if (from.left[s] > loss) {
                    bits |= 1 << s;
                }
            }
            return bits;
        }

        /** Of a hundred to the n-th equal chances those with k THUNDERS in n days. */
        long chancesOf(int k, int n) {
            long ways = 1;
            for (int i = 1; i <= k; i++) {
                ways = ways * (n - i + 1) / i;
            }
            return ways * powerOf(thunder, k) * powerOf(HUNDRED - thunder, n - k);
        }

        static int seedBehind(int seed) {
            return (75 * seed + 74) % SEEDS;
        }

        boolean isThunder(int draw) {
            return draw % HUNDRED < thunder;
        }

        int thundersDrawn(int seed, int n) {
            int count = 0;
            int draw = seed;
            for (int i = 0; i < n; i++) {
                draw = seedBehind(draw);
                if (isThunder(draw)) {
                    count++;
                }
            }
            return count;
        }

        int votesOf(int senators) {
            int sum = 0;
            for (int s = 0; s < senatorCount && s < MOST_SENATORS; s++) {
                sum += votes[s] * (senators >> s & 1);
            }
            return sum;
        }

        int leadOf(int a, int good) {
            return votesOf(good & actFor[a]) - votesOf(good & ~actFor[a]);
        }

        /** Acts that GO by themselves; a moment's past tells those of days gone by. */
        int goingAlone(Moment from, Spans spans) {
            int bits = 0;
            for (int a = 0; a < actCount && a < MOST_ACTS; a++) {
                int day = actDay[a];
                boolean gone = day < from.day && day >= 0 && day <= LAST_ACT_DAY;
                int good = gone ? from.past[day] : spans.goodAfter(day - from.day, senatorCount);
                if (Integer.bitCount(good) >= quorum && leadOf(a, good) > 0) {
                    bits |= 1 << a;
                }
            }
            return bits;
        }

        /** An act GOES with all on which it rests or not at all, which answers rings too. */
        int goingAmong(int alone) {
            int bits = 0;
            for (int a = 0; a < actCount && a < MOST_ACTS; a++) {
                int needed = 1 << a | restsOn(a, 0);
                if ((needed & ~alone) == 0) {
                    bits |= 1 << a;
                }
            }
            return bits;
        }

        /** Acts on which one rests, through others too, where resting on those struck means nothing. */
        int restsOn(int a, int struck) {
            int reached = actRests[a] & ~struck;
            for (int round = 0; round < actCount; round++) {
                for (int b = 0; b < actCount && b < MOST_ACTS; b++) {
                    if ((reached >> b & 1) == 1) {
                        reached |= actRests[b] & ~struck;
                    }
                }
            }
            return reached;
        }

        int fallingWith(int a) {
            int bits = 1 << a;
            for (int b = 0; b < actCount && b < MOST_ACTS; b++) {
                if ((restsOn(b, 0) >> a & 1) == 1) {
                    bits |= 1 << b;
                }
            }
            return bits;
        }

        /** How many sets of the other GOOD ones have the most votes by him alone. */
        int swingsOf(int s, int good) {
            int others = good & ~(1 << s);
            int all = votesOf(good);
            int count = 0;
            for (int set = 0; set < 1 << MOST_SENATORS; set++) {
                int without = 2 * votesOf(set);
                int with = without + 2 * votes[s];
                if ((set & ~others) == 0 && without <= all && with > all) {
                    count++;
                }
            }
            return count;
        }
    }

    /** For how many days from a moment on, itself the first, each senator is GOOD. */
    static final class Spans {
        final int[] days = new int[MOST_SENATORS];

        void fill(Plan plan, Moment from) {
            for (int s = 0; s < plan.senatorCount && s < MOST_SENATORS; s++) {
                days[s] = plan.goodDays(from, s, from.kind[s], from.hookOf[s]);
            }
        }

        int goodAfter(int n, int senators) {
            int bits = 0;
            for (int s = 0; s < senators && s < MOST_SENATORS; s++) {
                if (days[s] > n) {
                    bits |= 1 << s;
                }
            }
            return bits;
        }

        int sum(int senators) {
            int sum = 0;
            for (int s = 0; s < senators && s < MOST_SENATORS; s++) {
                sum += days[s];
            }
            return sum;
        }

        /** Who is OFF stays OFF, so a quorum lasts as long as the quorum-th of those who last longest. */
        int quorumDays(int senators, int quorum) {
            int most = 0;
            for (int s = 0; s < senators && s < MOST_SENATORS; s++) {
                int asLong = Integer.bitCount(goodAfter(days[s] - 1, senators));
                if (asLong >= quorum && days[s] > most) {
                    most = days[s];
                }
            }
            return most;
        }
    }

    /** Looks through all ways to hang the senators, the first by senators and hooks first. */
    static final class Hanging {
        int best;
        final int[] bestAt = new int[MOST_SENATORS];
        private final int[] at = new int[MOST_SENATORS];
        private final int[] worth = new int[MOST_SENATORS * MOST_HOOKS];
        private final Spans chosen = new Spans();
        private int senators;
        private int hooks;
        /** 0 where the sum of the worths counts. */
        private int quorum;
        private int bound;

        void forMostGood(Plan plan, Moment from, int n) {
            begin(plan, 0);
            for (int s = 0; s < senators && s < MOST_SENATORS; s++) {
                for (int h = 0; h < hooks && h < MOST_HOOKS; h++) {
                    boolean good = from.left[s] > plan.lossOver(from.kind[s], h, from.day, n);
                    worth[s * MOST_HOOKS + h] = good ? 1 : 0;
                }
            }
            setBound();
            place(0, 0);
        }

        void forLongest(Plan plan, Moment from) {
            begin(plan, plan.quorum);
            for (int s = 0; s < senators && s < MOST_SENATORS; s++) {
                for (int h = 0; h < hooks && h < MOST_HOOKS; h++) {
                    worth[s * MOST_HOOKS + h] = plan.goodDays(from, s, from.kind[s], h);
                }
            }
            setBound();
            place(0, 0);
        }

        private void begin(Plan plan, int quorumOrNone) {
            senators = plan.senatorCount;
            hooks = plan.hookCount;
            quorum = quorumOrNone;
        }

        /** As if each had the best hook for him: no way is better than that, so the first as good ends the search. */
        private void setBound() {
            for (int s = 0; s < senators && s < MOST_SENATORS; s++) {
                chosen.days[s] = 0;
                for (int h = 0; h < hooks && h < MOST_HOOKS; h++) {
                    chosen.days[s] = Math.max(chosen.days[s], worth[s * MOST_HOOKS + h]);
                }
            }
            bound = valueOfChosen();
            best = NONE;
        }

        private void place(int s, int taken) {
            if (s >= senators || s >= MOST_SENATORS) {
                keepIfBetter(valueOfChosen());
                return;
            }
            for (int h = 0; h < hooks && h < MOST_HOOKS && best < bound; h++) {
                if ((taken >> h & 1) == 0) {
                    at[s] = h;
                    chosen.days[s] = worth[s * MOST_HOOKS + h];
                    place(s + 1, taken | 1 << h);
                }
            }
        }

        private int valueOfChosen() {
            return quorum == 0 ? chosen.sum(senators) : chosen.quorumDays(senators, quorum);
        }

        private void keepIfBetter(int value) {
            if (value > best) {
                best = value;
                System.arraycopy(at, 0, bestAt, 0, MOST_SENATORS);
            }
        }
    }

    /** The days since when he who is doubted may have been OFF. */
    static final class Doubt {
        int count;
        private final int[] fits = new int[NOT_OFF_YET + 1];
        /** Which acts GO by each day that fits, row by row with fits. */
        private final int[] goes = new int[NOT_OFF_YET + 1];
        private final Spans spans = new Spans();

        void weigh(Plan plan) {
            count = 0;
            int doubted = plan.doubted;
            if (doubted < 0 || doubted >= MOST_SENATORS) {
                return;
            }
            spans.fill(plan, plan.first);
            for (int day = 0; day <= NOT_OFF_YET; day++) {
                spans.days[doubted] = day;
                int going = plan.goingAmong(plan.goingAlone(plan.first, spans));
                if ((plan.went & ~going) == 0 && (plan.fell & going) == 0) {
                    fits[count] = day;
                    goes[count] = going;
                    count++;
                }
            }
        }

        int fitting(int i) {
            return i >= 0 && i < count && i <= NOT_OFF_YET ? fits[i] : NONE;
        }

        int actToAsk(int acts) {
            int fewest = count + 1;
            int asked = NOTHING;
            for (int a = 0; a < acts && count > 0; a++) {
                int left = leftBy(a);
                if (left < fewest) {
                    fewest = left;
                    asked = a;
                }
            }
            return asked;
        }

        int leftBy(int a) {
            int went = 0;
            for (int i = 0; i < count && i <= NOT_OFF_YET; i++) {
                went += goes[i] >> a & 1;
            }
            return Math.max(went, count - went);
        }
    }

    /** THE TAPE, and the TOKENS of a text one behind the other. */
    static final class Reader {
        int length;
        /** The TOKEN at hand: its sort, where it begins, which keyword it is, and its letters or its number. */
        int sort;
        int start;
        int keyword;
        long value;
        private final byte[] bytes = new byte[TAPE_ROOM];
        private final int[] sorts = new int[TAPE_ROOM + 1];
        private final int[] starts = new int[TAPE_ROOM + 1];
        private final int[] keywords = new int[TAPE_ROOM + 1];
        private final long[] values = new long[TAPE_ROOM + 1];
        private final long[] keyLetters = new long[MOST_KEYS + 1];
        private int next;
        private int end;
        private int at;

        Reader() {
            int key = KEY_SAFE;
            for (int i = 0; i < KEY_TEXTS.length() && key <= MOST_KEYS; i++) {
                char sign = KEY_TEXTS.charAt(i);
                if (sign == ' ') {
                    key++;
                } else {
                    keyLetters[key] = withLetter(keyLetters[key], sign);
                }
            }
        }

        void put(int number) {
            for (int shift = 24; shift >= 0; shift -= 8) {
                if (length < TAPE_ROOM) {
                    bytes[length] = (byte) (number >> shift);
                    length++;
                }
            }
        }

        /** Nothing is read behind a bad TOKEN, since no text goes on there. */
        void split(int n) {
            end = Math.min(n, TAPE_ROOM);
            next = 0;
            boolean more = true;
            for (int i = 0; i <= TAPE_ROOM && more; i++) {
                while (next < end && bytes[next] == ' ') {
                    next++;
                }
                starts[i] = next;
                keywords[i] = KEY_NONE;
                values[i] = 0;
                sorts[i] = readToken(i);
                more = sorts[i] != TOKEN_END && sorts[i] != TOKEN_BAD;
            }
            at = -1;
            advance();
        }

        void advance() {
            if (at < TAPE_ROOM) {
                at++;
            }
            sort = sorts[at];
            start = starts[at];
            keyword = keywords[at];
            value = values[at];
        }

        private int readToken(int i) {
            if (next >= end) {
                return TOKEN_END;
            }
            int sign = bytes[next];
            if (isLetter(sign)) {
                return readWord(i);
            }
            if (isDigit(sign)) {
                return readWhole(i);
            }
            next++;
            return sign == ';' ? TOKEN_SEMICOLON : TOKEN_BAD;
        }

        private int readWord(int i) {
            int from = next;
            long letters = 0;
            while (next < end && isLetter(bytes[next])) {
                letters = withLetter(letters, bytes[next]);
                next++;
            }
            if (next - from > LONGEST_WORD) {
                return TOKEN_BAD;
            }
            values[i] = letters;
            keywords[i] = keyOf(letters);
            return TOKEN_WORD;
        }

        private int readWhole(int i) {
            int from = next;
            long number = 0;
            while (next < end && isDigit(bytes[next])) {
                number = number * 10 + bytes[next] - '0';
                next++;
            }
            values[i] = number;
            return next - from <= LONGEST_WHOLE ? TOKEN_WHOLE : TOKEN_BAD;
        }

        /** Eight letters of five bits each fit a long, none of them 0, so unlike WORDS have unlike values. */
        private static long withLetter(long letters, int letter) {
            return letters << 5 | letter - 'a' + 1;
        }

        private int keyOf(long letters) {
            for (int key = KEY_SAFE; key <= MOST_KEYS; key++) {
                if (keyLetters[key] == letters) {
                    return key;
                }
            }
            return KEY_NONE;
        }

        private static boolean isLetter(int sign) {
            return sign >= 'a' && sign <= 'z';
        }

        private static boolean isDigit(int sign) {
            return sign >= '0' && sign <= '9';
        }
    }

    /** Reads a text from the left and stops at its first FAULT. */
    static final class Parser {
        final Reader reader = new Reader();
        int fault;
        int place;
        /** A text is read into a plan of its own, so that a faulty one leaves the SAFE alone. */
        private Plan plan = new Plan();
        private boolean safeTold;
        private int heardWhole;
        private int hungBits;
        private int nameCount;
        private final long[] names = new long[MOST_NAMES];
        /** A name's sort is that of the LINE that tells it. */
        private final int[] nameSorts = new int[MOST_NAMES];
        private final int[] nameNumbers = new int[MOST_NAMES];

        /** Hands out the plan that was read; the old one is used again for the next text. */
        Plan exchange(Plan old) {
            Plan heard = plan;
            plan = old;
            return heard;
        }

        boolean hear(int n) {
            plan.clear();
            fault = 0;
            place = 0;
            safeTold = false;
            hungBits = 0;
            nameCount = 0;
            reader.split(n);
            for (int i = 0; i <= TAPE_ROOM; i++) {
                if (!hearLine()) {
                    return false;
                }
                if (reader.sort == TOKEN_END) {
                    return plan.senatorCount > 0 || fail(FAULT_LACKS);
                }
                if (reader.sort != TOKEN_SEMICOLON) {
                    return fail(FAULT_FORM);
                }
                reader.advance();
            }
            return fail(FAULT_FORM);
        }

        private boolean hearLine() {
            int key = reader.keyword;
            if (key < KEY_SAFE || key > KEY_FELL || reader.sort != TOKEN_WORD) {
                return fail(FAULT_FORM);
            }
            if (key != KEY_SAFE && !safeTold) {
                return fail(FAULT_LACKS);
            }
            switch (key) {
                case KEY_SAFE:
                    return hearSafe();
                case KEY_HOOK:
                    return hearHook();
                case KEY_SENATOR:
                    return hearSenator();
                case KEY_ACT:
                    return hearAct();
                case KEY_FOR:
                    return hearFor();
                case KEY_RESTS:
                    return hearRests();
                case KEY_DOUBTED:
                    return hearDoubted();
                default:
                    return hearOutcome(key == KEY_WENT);
            }
        }

        private boolean hearSafe() {
            if (safeTold) {
                return fail(FAULT_AGAIN);
            }
            safeTold = true;
            reader.advance();
            if (!hearNumber(KEY_QUORUM, 1, 6)) {
                return false;
            }
            plan.quorum = heardWhole;
            if (!hearNumber(KEY_HEAT, 1, 9)) {
                return false;
            }
            plan.heat = heardWhole;
            if (!hearNumber(KEY_THUNDER, 0, 100)) {
                return false;
            }
            plan.thunder = heardWhole;
            if (!hearNumber(KEY_SALT, 0, 9)) {
                return false;
            }
            plan.first.salt = heardWhole;
            return true;
        }

        private boolean hearHook() {
            int h = plan.hookCount;
            if (h >= MOST_HOOKS) {
                return fail(FAULT_MANY);
            }
            reader.advance();
            if (!hearNewName(KEY_HOOK, h) || !hearNumber(KEY_AIR, 0, 9)) {
                return false;
            }
            plan.air[h] = heardWhole;
            plan.hookCount++;
            return true;
        }

        private boolean hearSenator() {
            int s = plan.senatorCount;
            if (s >= MOST_SENATORS) {
                return fail(FAULT_MANY);
            }
            reader.advance();
            if (!hearNewName(KEY_SENATOR, s) || !hearKind(s) || !hearWord(KEY_AT) || !hearFreeHook(s)) {
                return false;
            }
            if (!hearNumber(KEY_GOOD, 1, 99)) {
                return false;
            }
            plan.first.left[s] = heardWhole;
            if (!hearNumber(KEY_VOTES, 0, 9)) {
                return false;
            }
            plan.votes[s] = heardWhole;
            plan.senatorCount++;
            return true;
        }

        private boolean hearKind(int s) {
            switch (reader.keyword) {
                case KEY_FRESH:
                    plan.first.kind[s] = FRESH;
                    break;
                case KEY_SALTED:
                    plan.first.kind[s] = SALTED;
                    break;
                case KEY_COLD:
                    plan.first.kind[s] = COLD;
                    break;
                default:
                    return fail(FAULT_FORM);
            }
            reader.advance();
            return true;
        }

        private boolean hearFreeHook(int s) {
            int h = toldNumber(KEY_HOOK);
            if (h < 0) {
                return false;
            }
            if ((hungBits >> h & 1) == 1) {
                return fail(FAULT_HUNG);
            }
            hungBits |= 1 << h;
            plan.first.hookOf[s] = h;
            reader.advance();
            return true;
        }

        private boolean hearAct() {
            int a = plan.actCount;
            if (a >= MOST_ACTS) {
                return fail(FAULT_MANY);
            }
            reader.advance();
            if (!hearNewName(KEY_ACT, a) || !hearNumber(KEY_DAY, 0, LAST_ACT_DAY)) {
                return false;
            }
            plan.actDay[a] = heardWhole;
            plan.actCount++;
            return true;
        }

        private boolean hearFor() {
            if (plan.forCount >= MOST_FORS) {
                return fail(FAULT_MANY);
            }
            reader.advance();
            int s = toldNumber(KEY_SENATOR);
            if (s < 0) {
                return false;
            }
            reader.advance();
            int a = toldNumber(KEY_ACT);
            if (a < 0 || a >= MOST_ACTS) {
                return false;
            }
            if ((plan.actFor[a] >> s & 1) == 1) {
                return fail(FAULT_AGAIN);
            }
            plan.actFor[a] |= 1 << s;
            plan.forCount++;
            reader.advance();
            return true;
        }

        private boolean hearRests() {
            if (plan.restsCount >= MOST_RESTS) {
                return fail(FAULT_MANY);
            }
            reader.advance();
            int a = toldNumber(KEY_ACT);
            if (a < 0 || a >= MOST_ACTS) {
                return false;
            }
            reader.advance();
            int b = toldNumber(KEY_ACT);
            if (b < 0) {
                return false;
            }
            if (a == b || (plan.actRests[a] >> b & 1) == 1) {
                return fail(FAULT_AGAIN);
            }
            plan.actRests[a] |= 1 << b;
            plan.restsCount++;
            reader.advance();
            return true;
        }

        private boolean hearDoubted() {
            if (plan.doubted >= 0) {
                return fail(FAULT_AGAIN);
            }
            reader.advance();
            int s = toldNumber(KEY_SENATOR);
            if (s < 0) {
                return false;
            }
            plan.doubted = s;
            reader.advance();
            return true;
        }

        private boolean hearOutcome(boolean goes) {
            reader.advance();
            int a = toldNumber(KEY_ACT);
            if (a < 0) {
                return false;
            }
            if (((plan.went | plan.fell) >> a & 1) == 1) {
                return fail(FAULT_AGAIN);
            }
            if (goes) {
                plan.went |= 1 << a;
            } else {
                plan.fell |= 1 << a;
            }
            reader.advance();
            return true;
        }

        private boolean hearWord(int key) {
            if (reader.keyword != key) {
                return fail(FAULT_FORM);
            }
            reader.advance();
            return true;
        }

        private boolean hearNumber(int key, int least, int most) {
            if (!hearWord(key)) {
                return false;
            }
            if (reader.sort != TOKEN_WHOLE) {
                return fail(FAULT_FORM);
            }
            if (reader.value < least || reader.value > most) {
                return fail(FAULT_BOUNDS);
            }
            heardWhole = (int) reader.value;
            reader.advance();
            return true;
        }

        private boolean isName() {
            return reader.sort == TOKEN_WORD && (reader.keyword == KEY_NONE || reader.keyword > KEY_FELL);
        }

        private boolean hearNewName(int sort, int number) {
            if (!isName()) {
                return fail(FAULT_FORM);
            }
            if (nameIndex() >= 0) {
                return fail(FAULT_AGAIN);
            }
            if (nameCount >= MOST_NAMES) {
                return fail(FAULT_MANY);
            }
            names[nameCount] = reader.value;
            nameSorts[nameCount] = sort;
            nameNumbers[nameCount] = number;
            nameCount++;
            reader.advance();
            return true;
        }

        /** Stays at the NAME, since more may be wrong with it than its sort. */
        private int toldNumber(int sort) {
            int i = isName() ? nameIndex() : NONE;
            if (i >= 0 && nameSorts[i] == sort) {
                return nameNumbers[i];
            }
            fail(isName() ? FAULT_UNTOLD : FAULT_FORM);
            return NONE;
        }

        private int nameIndex() {
            for (int i = 0; i < nameCount && i < MOST_NAMES; i++) {
                if (names[i] == reader.value) {
                    return i;
                }
            }
            return NONE;
        }

        private boolean fail(int number) {
            fault = number;
            place = reader.start;
            return false;
        }
    }
}
