import java.nio.charset.StandardCharsets;
import java.util.NoSuchElementException;

/** Random runs of calls, each answer compared with that of the plain model. */
public final class ModelTest {
    private static final int RUNS = 1000;
    private static final int TEXTS = 20000;
    /** What an object answers behind so many calls is free. */
    private static final int LAST_CALL = 512;

    private final Draws draws;
    private final SafeSenate x = new SafeSenate();
    private final PlainSenate plain = new PlainSenate();
    private final StringBuilder told = new StringBuilder();
    private boolean heldBack;
    private int calls;

    private ModelTest(long start) {
        draws = new Draws(start);
    }

    public static void main(String[] args) {
        for (int run = 0; run < RUNS; run++) {
            new ModelTest(run).run();
        }
        int[] met = new int[8];
        for (int i = 0; i < TEXTS; i++) {
            ModelTest text = new ModelTest(4711 + i);
            text.tell(i % 10 == 0 ? text.draws.babble() : text.draws.spoilt());
            met[text.plain.fault]++;
        }
        for (int fault = 0; fault < met.length; fault++) {
            Due.is("fault " + fault + " was met often", met[fault] > 50, true);
        }
        Due.end();
    }

    private void run() {
        if (draws.often(95)) {
            tell(draws.sound());
            Due.is(told + "is sound", plain.fault == 0 || heldBack, true);
        }
        while (calls < LAST_CALL) {
            call();
        }
    }

    /** Four calls of the object, the one that was made among them. */
    private void same(String call, long got, long want) {
        calls += 4;
        if (calls > LAST_CALL) {
            return;
        }
        Due.is(told + call, got, want);
        told.setLength(Math.min(told.length(), 20000));
        Due.is(call + " then trouble", x.trouble(), plain.trouble);
        Due.is(call + " then fault", x.fault(), plain.fault);
        Due.is(call + " then where", x.where(), plain.where());
    }

    private void same(String call, boolean got, boolean want) {
        same(call, got ? 1 : 0, want ? 1 : 0);
    }

    private void tell(String text) {
        String padded = text + " ".repeat((20 - text.length() % 20) % 20);
        told.append(text).append('\n');
        byte[] bytes = padded.getBytes(StandardCharsets.ISO_8859_1);
        for (int at = 0; at < bytes.length; at += 20) {
            int got = x.feed(Due.number(bytes, at), Due.number(bytes, at + 4), Due.number(bytes, at + 8),
                Due.number(bytes, at + 12), Due.number(bytes, at + 16));
            same("feed", got, plain.feed(padded.substring(at, at + 20)));
        }
        int n = draws.often(97) ? Math.min(text.length(), plain.tapeLength()) : draws.near(plain.tapeLength());
        heldBack = n < text.length();
        same("safe(" + n + ")", x.safe(n), plain.safe(n));
    }

    private void call() {
        int which = draws.below(60);
        if (which < 14) {
            acts(which);
        } else if (which < 28) {
            nowAndToCome(which);
        } else if (which < 40) {
            hungAndDoubted(which);
        } else if (which < 52) {
            restsAndPower(which);
        } else {
            thunder(which);
        }
    }

    private void acts(int which) {
        int s = draws.near(5);
        int h = draws.near(5);
        int v = draws.near(65536);
        int i = draws.near(2);
        switch (which) {
            case 0, 1, 2, 3 -> note("day", x.day(), plain.day());
            case 4, 5 -> note("move " + s + " " + h, x.move(s, h), plain.move(s, h));
            case 6, 7 -> note("salt " + s, x.salt(s) ? 1 : 0, plain.salt(s) ? 1 : 0);
            case 8 -> note("seed " + v, x.seed(v) ? 1 : 0, plain.seed(v) ? 1 : 0);
            case 9, 10 -> note("undo", x.undo() ? 1 : 0, plain.undo() ? 1 : 0);
            case 11 -> note("image", x.image(), plain.image());
            case 12 -> note("back " + i, x.back(i) ? 1 : 0, plain.back(i) ? 1 : 0);
            default -> sometimesAnotherText();
        }
    }

    private void note(String call, long got, long want) {
        same(call, got, want);
        told.append(call).append('\n');
    }

    private void sometimesAnotherText() {
        int draw = draws.below(12);
        if (draw == 0) {
            tell(draws.sound());
        } else if (draw == 1) {
            tell(draws.spoilt());
        }
    }

    private void nowAndToCome(int which) {
        int s = draws.near(5);
        int a = draws.near(4);
        int n = draws.near(60);
        int what = draws.near(15);
        switch (which) {
            case 14 -> same("senator " + s + " " + a, x.senator(s, a + 1), plain.senator(s, a + 1));
            case 15 -> same("hook", x.hook(s, a % 3), plain.hook(s, a % 3));
            case 16 -> same("act " + a, x.act(a, s), plain.act(a, s));
            case 17 -> same("good", x.good(), plain.good());
            case 18 -> same("quorum", x.quorum(), plain.quorum());
            case 19 -> same("goodIn " + s + " " + n, x.goodIn(s, n), plain.goodIn(s, n));
            case 20 -> same("offIn " + s, x.offIn(s), plain.offIn(s));
            case 21 -> same("lasts", x.lasts(), plain.lasts());
            case 22 -> same("going", x.going(), plain.going());
            case 23 -> same("nextAct", x.nextAct(), plain.nextAct());
            case 24 -> same("margin " + a, x.margin(a), plain.margin(a));
            case 25 -> same("size " + what, x.size(what), plain.size(what));
            case 26 -> same("led " + a, led(a), plain.led(a));
            default -> same("senator all", x.senator(s, 2), plain.senator(s, 2));
        }
    }

    private int led(int i) {
        try {
            return x.led(i);
        } catch (NoSuchElementException e) {
            return -9;
        }
    }

    private void hungAndDoubted(int which) {
        int s = draws.near(5);
        int n = draws.often(70) ? draws.near(12) : draws.near(60);
        int i = draws.near(41);
        switch (which) {
            case 28 -> same("hang " + n, x.hang(n), plain.hang(n));
            case 29 -> same("hangAt " + s + " " + n, x.hangAt(s, n), plain.hangAt(s, n));
            case 30 -> same("longest", x.longest(), plain.longest());
            case 31 -> same("longestAt " + s, x.longestAt(s), plain.longestAt(s));
            case 32 -> same("bestSwap", x.bestSwap(), plain.bestSwap());
            case 33 -> same("toSalt", x.toSalt(), plain.toSalt());
            case 34 -> same("keyMan", x.keyMan(), plain.keyMan());
            case 35 -> same("since", x.since(), plain.since());
            case 36 -> same("sinceAt " + i, x.sinceAt(i), plain.sinceAt(i));
            case 37 -> same("look", x.look(), plain.look());
            case 38 -> same("lookLeaves", x.lookLeaves(), plain.lookLeaves());
            default -> same("judge", x.judge(), plain.judge());
        }
    }

    private void restsAndPower(int which) {
        int s = draws.near(5);
        int a = draws.near(4);
        int worth = draws.near(20);
        boolean one = draws.often(50);
        boolean other = draws.often(50);
        boolean third = draws.often(50);
        switch (which) {
            case 40 -> same("fallsWith " + a, x.fallsWith(a), plain.fallsWith(a));
            case 41, 42 -> same("strike " + a, x.strike(a), plain.strike(a));
            case 43 -> same("keystone", x.keystone(), plain.keystone());
            case 44 -> same("ring", x.ring(), plain.ring());
            case 45, 46 -> same("power " + s + one, x.power(s, one), plain.power(s, one));
            case 47 -> same("strongest", x.strongest(), plain.strongest());
            case 48, 49 -> same("wire", x.wire(worth, one, other, third), plain.wire(worth, one, other, third));
            case 50 -> same("rests " + worth, x.rests(worth), plain.rests(worth));
            default -> same("rest " + worth, x.rest(worth), plain.rest(worth));
        }
    }

    private void thunder(int which) {
        int s = draws.near(5);
        int n = draws.near(6);
        int many = draws.near(99);
        int seed = draws.near(65536);
        boolean lower = draws.often(50);
        switch (which) {
            case 52, 53 -> same("odds " + n + lower, x.odds(n, lower), plain.odds(n, lower));
            case 54, 55 -> same("goodOdds " + s + n + lower, x.goodOdds(s, n, lower), plain.goodOdds(s, n, lower));
            case 56, 57 -> same("mean " + n + lower, x.mean(n, lower), plain.mean(n, lower));
            case 58 -> same("days " + seed + " " + many, x.days(seed, many), plain.days(seed, many));
            default -> same("thunders", x.thunders(seed, many), plain.thunders(seed, many));
        }
    }
}
