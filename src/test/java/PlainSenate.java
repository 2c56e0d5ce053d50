import java.util.ArrayList;
import java.util.Arrays;
import java.util.HashMap;
import java.util.List;
import java.util.Map;
import java.util.regex.Matcher;
import java.util.regex.Pattern;

/** The document once more, in the plainest way: day by day, all sets and all ways to hang looked through. */
final class PlainSenate {
    private static final String[] LINES = {
        "safe quorum 1-6 heat 1-9 thunder 0-100 salt 0-9", "hook +hook air 0-9",
        "senator +senator ?kind at @hook good 1-99 votes 0-9", "act +act day 0-40", "for @senator @act",
        "rests @act @act", "doubted @senator", "went @act", "fell @act"};
    private static final Map<String, Integer> ROOM = Map.of("hook", 6, "senator", 6, "act", 5, "for", 15, "rests", 6);

    /** What a text told, line by line: the first word and the numbers behind it. */
    private List<int[]> told = new ArrayList<>();
    private List<String> heads = new ArrayList<>();
    private State now;
    private final List<State> undo = new ArrayList<>();
    private final List<State> images = new ArrayList<>();
    private String tape = "";
    int trouble;
    int fault;
    private int place;

    static final class State {
        int day;
        int salt;
        int seed;
        int[] kind;
        int[] hook;
        int[] left;
        Map<Integer, Integer> past = new HashMap<>();

        State copy() {
            State c = new State();
            c.day = day;
            c.salt = salt;
            c.seed = seed;
            c.kind = kind.clone();
            c.hook = hook.clone();
            c.left = left.clone();
            c.past = new HashMap<>(past);
            return c;
        }
    }

    // ---- the text

    int feed(String twenty) {
        if (tape.length() + 20 > 900) {
            return -1;
        }
        tape += twenty;
        return tape.length();
    }

    int tapeLength() {
        return tape.length();
    }

    int safe(int n) {
        if (n < 0 || n > tape.length()) {
            return no(2);
        }
        String text = tape.substring(0, n);
        tape = "";
        List<int[]> lines = new ArrayList<>();
        List<String> words = new ArrayList<>();
        fault = 0;
        read(text, lines, words);
        if (fault != 0) {
            return no(4);
        }
        told = lines;
        heads = words;
        now = first();
        undo.clear();
        images.clear();
        return yes(count("senator"));
    }

    private void at(int where, int number) {
        if (fault == 0) {
            fault = number;
            place = where;
        }
    }

    private void read(String text, List<int[]> lines, List<String> words) {
        Matcher m = Pattern.compile("[a-z]+|[0-9]+|;|[^ ]").matcher(text);
        List<String> tokens = new ArrayList<>();
        List<Integer> places = new ArrayList<>();
        while (m.find()) {
            tokens.add(m.group());
            places.add(m.start());
        }
        tokens.add("");
        places.add(text.length());
        Map<String, int[]> names = new HashMap<>();
        int t = 0;
        while (fault == 0) {
            int used = readLine(tokens, places, t, lines, words, names);
            t += used;
            if (fault != 0) {
                return;
            }
            String behind = tokens.get(t);
            if (behind.isEmpty()) {
                if (!words.contains("senator")) {
                    at(places.get(t), 6);
                }
                return;
            }
            if (!behind.equals(";")) {
                at(places.get(t), 1);
            }
            t++;
        }
    }

    private static String template(String head) {
        for (String line : LINES) {
            if (line.startsWith(head + " ")) {
                return line;
            }
        }
        return null;
    }

    private int readLine(List<String> tokens, List<Integer> places, int from, List<int[]> lines, List<String> words,
            Map<String, int[]> names) {
        String head = tokens.get(from);
        String template = head.matches("[a-z]{1,8}") ? template(head) : null;
        int here = places.get(from);
        if (template == null) {
            at(here, 1);
            return 0;
        }
        boolean once = head.equals("safe") || head.equals("doubted");
        if (once && words.contains(head)) {
            at(here, 3);
        } else if (!head.equals("safe") && !words.contains("safe")) {
            at(here, 6);
        } else if (ROOM.containsKey(head) && words.stream().filter(head::equals).count() == ROOM.get(head)) {
            at(here, 5);
        }
        String[] parts = template.split(" ");
        List<Integer> numbers = new ArrayList<>();
        for (int i = 1; i < parts.length && fault == 0; i++) {
            readPart(parts[i], tokens.get(from + i), places.get(from + i), names, numbers);
            if (fault == 0) {
                unlike(head, i, places.get(from + i), numbers, lines, words);
            }
        }
        lines.add(numbers.stream().mapToInt(Integer::intValue).toArray());
        words.add(head);
        return parts.length;
    }

    private void readPart(String part, String token, int here, Map<String, int[]> names, List<Integer> numbers) {
        char sign = part.charAt(0);
        if (sign == '+' || sign == '@') {
            boolean name = token.matches("[a-z]{1,8}") && template(token) == null;
            String sort = part.substring(1);
            int[] known = names.get(token);
            if (!name) {
                at(here, 1);
            } else if (sign == '@') {
                at(here, known == null || known[0] != sort.hashCode() ? 2 : 0);
                numbers.add(known == null ? -1 : known[1]);
            } else if (known != null) {
                at(here, 3);
            } else {
                int number = (int) names.values().stream().filter(v -> v[0] == sort.hashCode()).count();
                names.put(token, new int[] {sort.hashCode(), number});
            }
        } else if (sign == '?') {
            int kind = List.of("fresh", "salted", "cold").indexOf(token);
            at(here, kind < 0 ? 1 : 0);
            numbers.add(kind);
        } else if (Character.isDigit(sign)) {
            String[] ends = part.split("-");
            if (!token.matches("[0-9]{1,3}")) {
                at(here, 1);
                return;
            }
            int value = Integer.parseInt(token);
            at(here, value < Integer.parseInt(ends[0]) || value > Integer.parseInt(ends[1]) ? 4 : 0);
            numbers.add(value);
        } else if (!token.equals(part)) {
            at(here, 1);
        }
    }

    /** What must be unlike earlier lines: hooks hung at, twos told, outcomes. */
    private void unlike(String head, int part, int here, List<Integer> numbers, List<int[]> lines, List<String> words) {
        if (head.equals("rests") && part == 2 && numbers.get(0).equals(numbers.get(1))) {
            at(here, 3);
        }
        for (int i = 0; i < lines.size(); i++) {
            int[] old = lines.get(i);
            boolean same = words.get(i).equals(head);
            if (head.equals("senator") && part == 4 && same && old[1] == numbers.get(1)) {
                at(here, 7);
            }
            if ((head.equals("for") || head.equals("rests")) && part == 2 && same
                && old[0] == numbers.get(0) && old[1] == numbers.get(1)) {
                at(here, 3);
            }
            boolean both = head.equals("went") || head.equals("fell");
            boolean oldBoth = words.get(i).equals("went") || words.get(i).equals("fell");
            if (both && oldBoth && part == 1 && old[0] == numbers.get(0)) {
                at(here, 3);
            }
        }
    }

    int where() {
        return trouble == 4 ? place : -1;
    }

    // ---- what was told

    private List<int[]> all(String head) {
        List<int[]> found = new ArrayList<>();
        for (int i = 0; i < told.size(); i++) {
            if (heads.get(i).equals(head)) {
                found.add(told.get(i));
            }
        }
        return found;
    }

    private int count(String head) {
        return all(head).size();
    }

    private int[] one(String head, int i) {
        return all(head).get(i);
    }

    private int head(int i) {
        return one("safe", 0)[i];
    }

    private int senators() {
        return count("senator");
    }

    private int acts() {
        return count("act");
    }

    private State first() {
        State s = new State();
        s.salt = head(3);
        s.kind = all("senator").stream().mapToInt(l -> l[0]).toArray();
        s.hook = all("senator").stream().mapToInt(l -> l[1]).toArray();
        s.left = all("senator").stream().mapToInt(l -> l[2]).toArray();
        return s;
    }

    private int no(int why) {
        trouble = why;
        return -1;
    }

    private int yes(int answer) {
        trouble = 0;
        return answer;
    }

    private boolean none() {
        return now == null;
    }

    private boolean noSenator(int s) {
        return none() || s < 0 || s >= senators();
    }

    private boolean noAct(int a) {
        return none() || a < 0 || a >= acts();
    }

    // ---- days

    private int loss(State s, int who) {
        if (s.kind[who] == 1) {
            return s.day % 2 == 0 ? 1 : 0;
        }
        int above = Math.max(1, head(1) - one("hook", s.hook[who])[0]);
        return s.kind[who] == 2 ? above / 2 : above;
    }

    private int goodOf(State s) {
        int bits = 0;
        for (int i = 0; i < s.left.length; i++) {
            bits |= s.left[i] > 0 ? 1 << i : 0;
        }
        return bits;
    }

    private void pass(State s, boolean thunder) {
        s.past.put(s.day, goodOf(s));
        for (int i = 0; i < s.left.length; i++) {
            int more = thunder && s.kind[i] != 1 ? 3 : 0;
            s.left[i] = Math.max(0, s.left[i] - loss(s, i) - more);
        }
        s.day++;
    }

    private State in(State from, int n) {
        State s = from.copy();
        for (int i = 0; i < n; i++) {
            pass(s, false);
        }
        return s;
    }

    private boolean quorumOf(State s) {
        return Integer.bitCount(goodOf(s)) >= head(0);
    }

    private int lastsOf(State from) {
        State s = from.copy();
        int days = 0;
        while (days < 99 && quorumOf(s)) {
            days++;
            pass(s, false);
        }
        return days;
    }

    private int forBits(int a) {
        int bits = 0;
        for (int[] l : all("for")) {
            bits |= l[1] == a ? 1 << l[0] : 0;
        }
        return bits;
    }

    private boolean restsDirectly(int a, int b) {
        return all("rests").stream().anyMatch(l -> l[0] == a && l[1] == b);
    }

    private int lead(int a, int good) {
        int lead = 0;
        for (int s = 0; s < senators(); s++) {
            if ((good >> s & 1) == 1) {
                lead += (forBits(a) >> s & 1) == 1 ? one("senator", s)[3] : -one("senator", s)[3];
            }
        }
        return lead;
    }

    /** Who is GOOD when an act is put, without those taken out from the state's day on. */
    private int goodThen(State from, int a, int out) {
        int day = one("act", a)[0];
        if (day < from.day) {
            return from.past.get(day);
        }
        return goodOf(in(from, day - from.day)) & ~out;
    }

    private boolean alone(int a, int good) {
        return Integer.bitCount(good) >= head(0) && lead(a, good) > 0;
    }

    /** Takes acts out until nothing changes, where resting on those struck means nothing. */
    private int settle(int alone, int struck) {
        int go = alone;
        for (int round = 0; round < 9; round++) {
            for (int[] l : all("rests")) {
                if ((struck >> l[1] & 1) == 0 && (go >> l[1] & 1) == 0) {
                    go &= ~(1 << l[0]);
                }
            }
        }
        return go;
    }

    private int aloneBits(State from, int out) {
        int bits = 0;
        for (int a = 0; a < acts(); a++) {
            bits |= alone(a, goodThen(from, a, out)) ? 1 << a : 0;
        }
        return bits;
    }

    private int goingOf(State from, int out) {
        return settle(aloneBits(from, out), 0);
    }

    // ---- the face

    int senator(int s, int what) {
        if (noSenator(s) || what < 0 || what > 5) {
            return no(1);
        }
        int acts = 0;
        for (int a = 0; a < acts(); a++) {
            acts |= (forBits(a) >> s & 1) << a;
        }
        int[] row = {now.kind[s], now.hook[s], now.left[s], one("senator", s)[3], acts, Math.min(loss(now, s), now.left[s])};
        return yes(row[what]);
    }

    private int at(int h) {
        for (int s = 0; s < senators(); s++) {
            if (now.hook[s] == h) {
                return s;
            }
        }
        return -2;
    }

    int hook(int h, int what) {
        if (none() || h < 0 || h >= count("hook") || what < 0 || what > 1) {
            return no(1);
        }
        return yes(what == 0 ? one("hook", h)[0] : at(h));
    }

    int act(int a, int what) {
        if (noAct(a) || what < 0 || what > 3) {
            return no(1);
        }
        int rests = 0;
        for (int b = 0; b < acts(); b++) {
            rests |= restsDirectly(a, b) ? 1 << b : 0;
        }
        int[] row = {one("act", a)[0], forBits(a), rests, goingOf(now, 0) >> a & 1};
        return yes(row[what]);
    }

    int good() {
        return none() ? no(1) : yes(goodOf(now));
    }

    int quorum() {
        return none() ? no(1) : yes(quorumOf(now) ? 1 : 0);
    }

    int goodIn(int s, int n) {
        return noSenator(s) ? no(1) : n < 0 || n > 60 ? no(2) : yes(in(now, n).left[s]);
    }

    int offIn(int s) {
        if (noSenator(s)) {
            return no(1);
        }
        for (int n = 0; n <= 60; n++) {
            if (in(now, n).left[s] == 0) {
                return yes(n);
            }
        }
        return yes(-2);
    }

    int lasts() {
        return none() ? no(1) : yes(lastsOf(now));
    }

    int going() {
        return none() ? no(1) : yes(goingOf(now, 0));
    }

    int nextAct() {
        if (none()) {
            return no(1);
        }
        for (int day = now.day; day <= 40; day++) {
            for (int a = 0; a < acts(); a++) {
                if (one("act", a)[0] == day) {
                    return yes(a);
                }
            }
        }
        return yes(-2);
    }

    int margin(int a) {
        if (noAct(a)) {
            return no(1);
        }
        return one("act", a)[0] < now.day ? no(5) : yes(1000 + lead(a, goodThen(now, a, 0)));
    }

    /** All ways to hang, the first ahead. */
    private List<int[]> hangings() {
        List<int[]> ways = new ArrayList<>();
        int hooks = count("hook");
        int codes = 1;
        for (int s = 0; s < senators(); s++) {
            codes *= hooks;
        }
        for (int code = 0; code < codes; code++) {
            int[] way = new int[senators()];
            int rest = code;
            for (int s = way.length - 1; s >= 0; s--) {
                way[s] = rest % hooks;
                rest /= hooks;
            }
            if (Arrays.stream(way).distinct().count() == way.length) {
                ways.add(way);
            }
        }
        return ways;
    }

    /** The best way and its value behind it; n below 0 asks for the longest. */
    private int[] bestWay(int n) {
        int[] best = null;
        for (int[] way : hangings()) {
            State s = now.copy();
            s.hook = way;
            int value = n < 0 ? lastsOf(s) : Integer.bitCount(goodOf(in(s, n)));
            if (best == null || value > best[way.length]) {
                best = Arrays.copyOf(way, way.length + 1);
                best[way.length] = value;
            }
        }
        return best;
    }

    int hang(int n) {
        return none() ? no(1) : n < 0 || n > 60 ? no(2) : yes(bestWay(n)[senators()]);
    }

    int hangAt(int s, int n) {
        return noSenator(s) ? no(1) : n < 0 || n > 60 ? no(2) : yes(bestWay(n)[s]);
    }

    int longest() {
        return none() ? no(1) : yes(bestWay(-1)[senators()]);
    }

    int longestAt(int s) {
        return noSenator(s) ? no(1) : yes(bestWay(-1)[s]);
    }

    int bestSwap() {
        if (none()) {
            return no(1);
        }
        int best = -2;
        int most = lastsOf(now);
        for (int s = 0; s < senators(); s++) {
            for (int t = s + 1; t < senators(); t++) {
                State x = now.copy();
                x.hook[s] = now.hook[t];
                x.hook[t] = now.hook[s];
                if (lastsOf(x) > most) {
                    most = lastsOf(x);
                    best = 10 * s + t;
                }
            }
        }
        return yes(best);
    }

    int toSalt() {
        if (none()) {
            return no(1);
        }
        int best = -2;
        int most = lastsOf(now);
        for (int s = 0; s < senators() && now.salt > 0; s++) {
            State x = now.copy();
            x.kind[s] = 1;
            if (now.kind[s] != 1 && lastsOf(x) > most) {
                most = lastsOf(x);
                best = s;
            }
        }
        return yes(best);
    }

    int keyMan() {
        if (none()) {
            return no(1);
        }
        int best = 0;
        for (int s = 0; s < senators(); s++) {
            if (Integer.bitCount(goingOf(now, 1 << s)) < Integer.bitCount(goingOf(now, 1 << best))) {
                best = s;
            }
        }
        return yes(best);
    }

    /** Which acts go if he who is doubted was off from a day on. */
    private int goingSince(int day) {
        int doubted = one("doubted", 0)[0];
        int alone = 0;
        for (int a = 0; a < acts(); a++) {
            int put = one("act", a)[0];
            int good = goodThen(first(), a, 1 << doubted) | (put < day ? 1 << doubted : 0);
            alone |= alone(a, good) ? 1 << a : 0;
        }
        return settle(alone, 0);
    }

    private boolean asTold(int going) {
        return all("went").stream().allMatch(l -> (going >> l[0] & 1) == 1)
            && all("fell").stream().allMatch(l -> (going >> l[0] & 1) == 0);
    }

    private List<Integer> fitting() {
        List<Integer> days = new ArrayList<>();
        for (int day = 0; day <= 41; day++) {
            if (asTold(goingSince(day))) {
                days.add(day);
            }
        }
        return days;
    }

    private int noDoubt() {
        return none() ? 1 : count("doubted") == 0 ? 6 : 0;
    }

    int since() {
        return noDoubt() != 0 ? no(noDoubt()) : yes(fitting().size());
    }

    int sinceAt(int i) {
        if (noDoubt() != 0) {
            return no(noDoubt());
        }
        List<Integer> days = fitting();
        return i < 0 || i >= days.size() ? no(1) : yes(days.get(i));
    }

    /** The act to look at, and how many are left then. */
    private int[] looking() {
        List<Integer> days = fitting();
        int[] best = {-2, -2};
        for (int a = 0; a < acts() && !days.isEmpty(); a++) {
            int act = a;
            int went = (int) days.stream().filter(d -> (goingSince(d) >> act & 1) == 1).count();
            int left = Math.max(went, days.size() - went);
            if (best[0] < 0 || left < best[1]) {
                best = new int[] {a, left};
            }
        }
        return best;
    }

    int look() {
        return noDoubt() != 0 ? no(noDoubt()) : yes(looking()[0]);
    }

    int lookLeaves() {
        return noDoubt() != 0 ? no(noDoubt()) : yes(looking()[1]);
    }

    int judge() {
        if (none()) {
            return no(1);
        }
        int going = goingOf(first(), 0);
        for (int a = 0; a < acts(); a++) {
            int act = a;
            boolean went = all("went").stream().anyMatch(l -> l[0] == act);
            boolean fell = all("fell").stream().anyMatch(l -> l[0] == act);
            if (went && (going >> a & 1) == 0 || fell && (going >> a & 1) == 1) {
                return yes(a);
            }
        }
        return yes(-2);
    }

    private int falling(int a) {
        int all = (1 << acts()) - 1;
        return all & ~settle(all & ~(1 << a), 0);
    }

    int fallsWith(int a) {
        return noAct(a) ? no(1) : yes(falling(a));
    }

    int strike(int a) {
        if (noAct(a)) {
            return no(1);
        }
        int alone = aloneBits(now, 0);
        if ((alone >> a & 1) == 0) {
            return yes(-2);
        }
        for (int size = 0; size < 5; size++) {
            for (int struck = 0; struck < 32; struck++) {
                if (Integer.bitCount(struck) == size && struck >> acts() == 0 && (struck >> a & 1) == 0
                    && (settle(alone, struck) >> a & 1) == 1) {
                    return yes(struck);
                }
            }
        }
        return -99;
    }

    int keystone() {
        if (none()) {
            return no(1);
        }
        int best = -2;
        for (int a = 0; a < acts(); a++) {
            if (best < 0 || Integer.bitCount(falling(a)) > Integer.bitCount(falling(best))) {
                best = a;
            }
        }
        return yes(best);
    }

    private boolean reaches(int a, int b, int depth) {
        for (int c = 0; c < acts() && depth < 6; c++) {
            if (restsDirectly(a, c) && (c == b || reaches(c, b, depth + 1))) {
                return true;
            }
        }
        return false;
    }

    int ring() {
        if (none()) {
            return no(1);
        }
        for (int a = 0; a < acts(); a++) {
            if (reaches(a, a, 0)) {
                return yes(1);
            }
        }
        return yes(0);
    }

    private int swings(int s) {
        List<Integer> others = new ArrayList<>();
        int all = 0;
        for (int i = 0; i < senators(); i++) {
            if (now.left[i] > 0) {
                all += one("senator", i)[3];
                if (i != s) {
                    others.add(one("senator", i)[3]);
                }
            }
        }
        int mine = one("senator", s)[3];
        int count = 0;
        for (int set = 0; set < 1 << others.size(); set++) {
            int sum = 0;
            for (int i = 0; i < others.size(); i++) {
                sum += (set >> i & 1) * others.get(i);
            }
            count += sum <= all - sum && sum + mine > all - sum - mine ? 1 : 0;
        }
        return count;
    }

    private long part(java.math.BigInteger upper, java.math.BigInteger lower, boolean wantLower) {
        java.math.BigInteger common = upper.gcd(lower);
        trouble = 0;
        return (wantLower ? lower : upper).divide(common).longValueExact();
    }

    long power(int s, boolean lower) {
        if (noSenator(s)) {
            return no(1);
        }
        if (now.left[s] == 0) {
            return no(5);
        }
        int sets = 1 << (Integer.bitCount(goodOf(now)) - 1);
        return part(java.math.BigInteger.valueOf(swings(s)), java.math.BigInteger.valueOf(sets), lower);
    }

    int strongest() {
        if (none()) {
            return no(1);
        }
        int best = -2;
        for (int s = 0; s < senators(); s++) {
            if (now.left[s] > 0 && (best < 0 || swings(s) > swings(best))) {
                best = s;
            }
        }
        return yes(best);
    }

    private static int[] pay(int worth, boolean one, boolean other) {
        if (one && other) {
            return new int[] {worth / 2 - 2, worth / 2 - 2};
        }
        return new int[] {one ? worth : other ? 1 : 0, other ? worth : one ? 1 : 0};
    }

    int wire(int worth, boolean one, boolean other, boolean ofOther) {
        if (none() || worth < 0 || worth > 20) {
            no(none() ? 1 : 2);
            return -100;
        }
        return yes(pay(worth, one, other)[ofOther ? 1 : 0]);
    }

    private List<Integer> restsOf(int worth) {
        List<Integer> found = new ArrayList<>();
        for (int code : new int[] {0, 1, 10, 11}) {
            boolean one = code >= 10;
            boolean other = code % 10 == 1;
            int[] have = pay(worth, one, other);
            if (pay(worth, !one, other)[0] <= have[0] && pay(worth, one, !other)[1] <= have[1]) {
                found.add(code);
            }
        }
        return found;
    }

    int rests(int worth) {
        return none() ? no(1) : worth < 0 || worth > 20 ? no(2) : yes(restsOf(worth).size());
    }

    int rest(int worth) {
        if (none() || worth < 0 || worth > 20) {
            return no(none() ? 1 : 2);
        }
        return yes(restsOf(worth).isEmpty() ? -2 : restsOf(worth).get(0));
    }

    /** The chances, of a hundred for each day to come, weighed by what is asked: -1 a quorum, -2 how many, else who. */
    private java.math.BigInteger chances(State s, int n, int ask) {
        if (n == 0) {
            int good = goodOf(s);
            int value = ask == -1 ? quorumOf(s) ? 1 : 0 : ask == -2 ? Integer.bitCount(good) : good >> ask & 1;
            return java.math.BigInteger.valueOf(value);
        }
        State loud = s.copy();
        State still = s.copy();
        pass(loud, true);
        pass(still, false);
        return chances(loud, n - 1, ask).multiply(java.math.BigInteger.valueOf(head(2)))
            .add(chances(still, n - 1, ask).multiply(java.math.BigInteger.valueOf(100 - head(2))));
    }

    private long chancePart(int n, int ask, boolean lower) {
        if (n < 0 || n > 6) {
            return no(2);
        }
        return part(chances(now, n, ask), java.math.BigInteger.valueOf(100).pow(n), lower);
    }

    long odds(int n, boolean lower) {
        return none() ? no(1) : chancePart(n, -1, lower);
    }

    long goodOdds(int s, int n, boolean lower) {
        return noSenator(s) ? no(1) : chancePart(n, s, lower);
    }

    long mean(int n, boolean lower) {
        return none() ? no(1) : chancePart(n, -2, lower);
    }

    /** A day by the state's SEED: whether there was thunder. */
    private boolean passDrawn(State s) {
        s.seed = (int) ((75L * s.seed + 74) % 65537);
        boolean thunder = s.seed % 100 < head(2);
        pass(s, thunder);
        return thunder;
    }

    private int[] drawn(int seed, int n) {
        State s = now.copy();
        s.seed = seed;
        int thunders = 0;
        for (int i = 0; i < n; i++) {
            thunders += passDrawn(s) ? 1 : 0;
        }
        return new int[] {goodOf(s), thunders};
    }

    private static boolean badDraw(int seed, int n) {
        return seed < 0 || seed > 65536 || n < 0 || n > 99;
    }

    int days(int seed, int n) {
        return none() ? no(1) : badDraw(seed, n) ? no(2) : yes(drawn(seed, n)[0]);
    }

    int thunders(int seed, int n) {
        return none() ? no(1) : badDraw(seed, n) ? no(2) : yes(drawn(seed, n)[1]);
    }

    private void keep() {
        undo.add(now.copy());
        if (undo.size() > 16) {
            undo.remove(0);
        }
    }

    int day() {
        if (none() || now.day == 99) {
            return no(none() ? 1 : 3);
        }
        keep();
        passDrawn(now);
        return yes(goodOf(now));
    }

    int move(int s, int h) {
        if (noSenator(s) || h < 0 || h >= count("hook")) {
            return no(1);
        }
        int other = at(h);
        if (other == s) {
            return no(5);
        }
        keep();
        if (other >= 0) {
            now.hook[other] = now.hook[s];
        }
        now.hook[s] = h;
        return yes(other);
    }

    boolean salt(int s) {
        int why = noSenator(s) ? 1 : now.kind[s] == 1 || now.left[s] == 0 ? 5 : now.salt == 0 ? 6 : 0;
        if (why == 0) {
            keep();
            now.kind[s] = 1;
            now.salt--;
        }
        trouble = why;
        return why == 0;
    }

    boolean seed(int v) {
        trouble = none() ? 1 : v < 0 || v > 65536 ? 2 : 0;
        if (trouble == 0) {
            now.seed = v;
        }
        return trouble == 0;
    }

    boolean undo() {
        trouble = undo.isEmpty() ? 6 : 0;
        if (trouble == 0) {
            now = undo.remove(undo.size() - 1);
        }
        return trouble == 0;
    }

    int image() {
        if (none() || images.size() == 3) {
            return no(none() ? 1 : 3);
        }
        images.add(now.copy());
        return yes(images.size() - 1);
    }

    boolean back(int image) {
        trouble = image < 0 || image >= images.size() ? 1 : 0;
        if (trouble == 0) {
            now = images.get(image).copy();
            undo.clear();
        }
        return trouble == 0;
    }

    /** -9 where there is none such. */
    int led(int i) {
        List<Integer> off = new ArrayList<>();
        for (int s = 0; !none() && s < senators(); s++) {
            if (now.left[s] == 0) {
                off.add(s);
            }
        }
        return i < 0 || i >= off.size() ? -9 : off.get(i);
    }

    int size(int what) {
        if (what == 15) {
            return tape.length();
        }
        if (what < 0 || what > 15) {
            return -1;
        }
        if (none()) {
            return 0;
        }
        int[] row = {head(0), head(1), head(2), now.salt, count("hook"), senators(), acts(), count("for"), count("rests"),
            count("doubted"), count("went") + count("fell"), now.day, now.seed, undo.size(), images.size()};
        return row[what];
    }
}
