import java.util.NoSuchElementException;
import java.util.function.Supplier;

/** What the tests of single promises share: refused calls and questions must leave all as it was. */
final class Edge {
    static final int[] WILD = {-1, Integer.MIN_VALUE, Integer.MAX_VALUE};
    static final String SAFE = "safe quorum 1 heat 3 thunder 50 salt 2";
    /** Two at three hooks, two acts, all that can be told once. */
    static final String TWO = SAFE + ";hook a air 1;hook b air 0;hook c air 2;senator p fresh at a good 9 votes 2;"
        + "senator q cold at b good 6 votes 1;act x day 1;act y day 3;for p x;for q y;rests y x;doubted p;went x";
    /** As many hooks, senators, acts, fors and rests as there is room for. */
    static final String FULL = SAFE + hooks(0, 1, 2, 3, 4, 9) + seats("fresh", 99, 9, 0, 1, 2, 3, 4, 5)
        + ";act u day 0;act v day 1;act w day 2;act x day 3;act y day 40"
        + ";for pa u;for pb u;for pc u;for pd u;for pe u;for pf u;for pa v;for pb v;for pc v;for pd v;for pe v"
        + ";for pf w;for pf x;for pf y;for pe y;rests u v;rests u w;rests u x;rests u y;rests v u;rests x y"
        + ";doubted pf;went u;fell v;went w;fell x;fell y";

    private Edge() {
    }

    interface Call {
        long on(SafeSenate x);
    }

    interface NumberCall {
        long on(SafeSenate x, int number);
    }

    /** Hooks ha, hb .. with these airs. */
    static String hooks(int... airs) {
        StringBuilder text = new StringBuilder();
        for (int i = 0; i < airs.length; i++) {
            text.append(";hook h").append((char) ('a' + i)).append(" air ").append(airs[i]);
        }
        return text.toString();
    }

    static String seat(int s, String kind, int hook, int good, int votes) {
        return ";senator p" + (char) ('a' + s) + " " + kind + " at h" + (char) ('a' + hook) + " good " + good
            + " votes " + votes;
    }

    /** Senators pa, pb .. all alike at these hooks. */
    static String seats(String kind, int good, int votes, int... hooks) {
        StringBuilder text = new StringBuilder();
        for (int s = 0; s < hooks.length; s++) {
            text.append(seat(s, kind, hooks[s], good, votes));
        }
        return text.toString();
    }

    /** One of a kind at a hook without air, by a heat. */
    static SafeSenate one(String kind, int good, int heat) {
        return Due.of("safe quorum 1 heat " + heat + " thunder 0 salt 1" + hooks(0) + seat(0, kind, 0, good, 1));
    }

    /** An object of which everything that can change has changed. */
    static SafeSenate used() {
        SafeSenate x = Due.of(TWO);
        x.image();
        x.day();
        x.salt(1);
        x.move(0, 2);
        x.seed(77);
        x.image();
        Due.feedBytes(x, (SAFE + ";hook z air 10").getBytes(java.nio.charset.StandardCharsets.ISO_8859_1));
        return x;
    }

    static void days(SafeSenate x, int n) {
        for (int i = 0; i < n; i++) {
            x.day();
        }
    }

    static void refused(String what, Supplier<SafeSenate> made, Call call, long answer, int trouble) {
        SafeSenate x = made.get();
        Due.refused(what, x, call.on(x), answer, trouble);
        Due.is(what + " leaves all as it was", trace(x).equals(trace(made.get())), true);
    }

    static void refused(String what, Supplier<SafeSenate> made, Call call, int trouble) {
        refused(what, made, call, SafeSenate.NONE, trouble);
    }

    /** A number below 0 and any far off is refused. */
    static void wild(String what, NumberCall call, long answer, int trouble) {
        for (int wild : WILD) {
            refused(what + " " + wild, Edge::used, x -> call.on(x, wild), answer, trouble);
        }
    }

    static void wild(String what, NumberCall call, int trouble) {
        wild(what, call, SafeSenate.NONE, trouble);
    }

    static void granted(String what, SafeSenate x, long got, long want) {
        Due.refused(what, x, got, want, 0);
    }

    /** A question is not refused and changes nothing. */
    static void asks(String what, Call call) {
        SafeSenate x = used();
        call.on(x);
        Due.is(what + " is not refused", x.trouble(), 0);
        Due.is(what + " changes nothing", trace(x).equals(trace(used())), true);
    }

    /** All that an object tells, also by undoing, by IMAGES and by hearing its tape: it is of no use behind that. */
    static String trace(SafeSenate x) {
        StringBuilder told = new StringBuilder().append(x.fault());
        addNow(told, x);
        for (int i = 0; i < 17; i++) {
            told.append("undo ").append(x.undo()).append(' ');
            addChanging(told, x);
        }
        for (int i = 0; i < 3; i++) {
            told.append("back ").append(x.back(i)).append(' ');
            addChanging(told, x);
        }
        told.append(x.safe(x.size(15))).append(' ').append(x.fault()).append(' ').append(x.where());
        return told.toString();
    }

    private static void addNow(StringBuilder told, SafeSenate x) {
        for (int what = 0; what <= 15; what++) {
            told.append(' ').append(x.size(what));
        }
        for (int what = 0; what <= 5; what++) {
            told.append(' ').append(x.senator(0, what)).append(' ').append(x.senator(1, what)).append(' ')
                .append(x.hook(what, 0)).append(' ').append(x.hook(what, 1)).append(' ')
                .append(x.act(0, what)).append(' ').append(x.act(1, what));
        }
        told.append('\n');
    }

    private static void addChanging(StringBuilder told, SafeSenate x) {
        told.append(x.size(3)).append(' ').append(x.size(11)).append(' ').append(x.size(12)).append(' ');
        for (int what = 0; what <= 2; what++) {
            told.append(x.senator(0, what)).append(' ').append(x.senator(1, what)).append(' ');
        }
        told.append(x.going()).append('\n');
    }

    /** What all questions answer; none of them changes anything. */
    static String answers(SafeSenate x) {
        StringBuilder told = new StringBuilder();
        add(told, x.good(), x.quorum(), x.lasts(), x.going(), x.nextAct(), x.longest(), x.bestSwap(), x.toSalt(), x.keyMan(),
            x.since(), x.look(), x.lookLeaves(), x.judge(), x.keystone(), x.ring(), x.strongest(), led(x, 0), led(x, 1));
        for (int i = 0; i <= 6; i++) {
            add(told, x.goodIn(i, 1), x.offIn(i), x.margin(i), x.hang(i), x.hangAt(i, 2), x.longestAt(i), x.sinceAt(6 * i),
                x.fallsWith(i), x.strike(i), x.power(i, false), x.power(i, true), x.odds(i, false), x.odds(i, true),
                x.goodOdds(i, 2, false), x.goodOdds(i, 2, true), x.mean(i, false), x.mean(i, true), x.days(i, 2 * i),
                x.thunders(i, 2 * i), x.senator(i, 5), x.hook(i, 1), x.act(i, 1), x.act(i, 2));
        }
        return told.toString();
    }

    private static void add(StringBuilder told, long... numbers) {
        for (long number : numbers) {
            told.append(number).append(' ');
        }
    }

    /** Whom led names, or NONE where it throws what it must. */
    static int led(SafeSenate x, int i) {
        try {
            return x.led(i);
        } catch (NoSuchElementException e) {
            return SafeSenate.NONE;
        }
    }
}
