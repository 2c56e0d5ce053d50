import java.util.NoSuchElementException;

/** Any calls with any numbers on any bytes: nothing is thrown but by led, and each answer is the same the second time. */
public final class WildTest {
    private static final int RUNS = 300;
    private static final int CALLS = 512;

    private final Draws draws;
    private final SafeSenate x = new SafeSenate();

    private WildTest(long start) {
        draws = new Draws(start);
    }

    public static void main(String[] args) {
        for (int run = 0; run < RUNS; run++) {
            long first = new WildTest(run).sum();
            Due.is("run " + run + " again", new WildTest(run).sum(), first);
        }
        Due.end();
    }

    private int any() {
        return draws.often(20) ? draws.random.nextInt() : draws.within(-2, draws.often(50) ? 7 : 70);
    }

    private long sum() {
        long sum = 0;
        if (draws.often(90)) {
            Due.tell(x, draws.sound());
        }
        for (int i = 0; i < CALLS; i++) {
            try {
                sum = 31 * sum + call(draws.below(51));
            } catch (NoSuchElementException e) {
                sum = 31 * sum + 1;
            }
            sum = 31 * sum + x.trouble();
        }
        return sum;
    }

    private long call(int which) {
        int a = any();
        int b = any();
        boolean c = draws.often(50);
        boolean d = draws.often(50);
        if (which < 26) {
            return firstHalf(which, a, b, c);
        }
        return secondHalf(which, a, b, c, d);
    }

    private long firstHalf(int which, int a, int b, boolean c) {
        return switch (which) {
            case 0 -> draws.often(20) ? Due.tell(x, draws.spoilt()) : x.feed(a, b, any(), any(), any());
            case 1 -> draws.often(10) ? x.safe(a) : x.fault();
            case 2 -> x.where();
            case 3 -> x.senator(a, b);
            case 4 -> x.hook(a, b);
            case 5 -> x.act(a, b);
            case 6 -> x.good();
            case 7 -> x.quorum();
            case 8 -> x.goodIn(a, b);
            case 9 -> x.offIn(a);
            case 10 -> x.lasts();
            case 11 -> x.going();
            case 12 -> x.nextAct();
            case 13 -> x.margin(a);
            case 14 -> x.hang(a);
            case 15 -> x.hangAt(a, b);
            case 16 -> x.longest();
            case 17 -> x.longestAt(a);
            case 18 -> x.bestSwap();
            case 19 -> x.toSalt();
            case 20 -> x.keyMan();
            case 21 -> x.since();
            case 22 -> x.sinceAt(a);
            case 23 -> x.look();
            case 24 -> x.lookLeaves();
            default -> c ? x.judge() : x.fallsWith(a);
        };
    }

    private long secondHalf(int which, int a, int b, boolean c, boolean d) {
        return switch (which) {
            case 26 -> x.strike(a);
            case 27 -> x.keystone();
            case 28 -> x.ring();
            case 29 -> x.power(a, c);
            case 30 -> x.strongest();
            case 31 -> x.wire(a, c, d, draws.often(50));
            case 32 -> x.rests(a);
            case 33 -> x.rest(a);
            case 34 -> x.odds(a, c);
            case 35 -> x.goodOdds(a, b, c);
            case 36 -> x.mean(a, c);
            case 37 -> x.days(a, b);
            case 38 -> x.thunders(a, b);
            case 39, 40, 41 -> x.day();
            case 42 -> x.move(a, b);
            case 43 -> x.salt(a) ? 1 : 0;
            case 44 -> x.seed(a) ? 1 : 0;
            case 45, 46 -> x.undo() ? 1 : 0;
            case 47 -> x.image();
            case 48 -> x.back(a) ? 1 : 0;
            case 49 -> x.led(a);
            default -> x.size(a);
        };
    }
}
