/** Promise 30: strike. */
public final class Promise30StrikeTest {
    private static final String FIVE = Promise29FallsWithTest.FIVE;
    private static final String CHAIN = Promise29FallsWithTest.CHAIN;

    public static void main(String[] args) {
        noneSuch();
        doesntGoByItself();
        noneToStrike();
        allOthers();
        fewest();
        leastBitsOfLikeOnes();
        notItself();
        restingOnThemMeansNothing();
        nowAndDaysGoneBy();
        Edge.asks("strike", x -> x.strike(0));
        Due.end();
    }

    /** The acts named by their letters go by themselves. */
    private static String going(String acts) {
        StringBuilder text = new StringBuilder(FIVE);
        for (char act : acts.toCharArray()) {
            text.append(";for pa ").append(act);
        }
        return text.toString();
    }

    private static void strikes(String text, int act, int bits) {
        SafeSenate x = Due.of(text);
        Edge.granted(text + ", " + act, x, x.strike(act), bits);
    }

    private static void noneSuch() {
        Edge.refused("behind the last", Edge::used, x -> x.strike(2), 1);
        Edge.refused("behind five", () -> Due.of(FIVE), x -> x.strike(5), 1);
        Edge.refused("no act", () -> Edge.one("cold", 1, 1), x -> x.strike(0), 1);
        Edge.wild("act", (x, wild) -> x.strike(wild), 1);
    }

    private static void doesntGoByItself() {
        strikes(FIVE, 0, -2);
        strikes(going("vwxy") + ";rests u v", 0, -2);
        strikes(going("uvwx"), 4, -2);
    }

    private static void noneToStrike() {
        strikes(going("u"), 0, 0);
        strikes(going("uvwxy") + CHAIN, 0, 0);
        strikes(going("uvwxy") + CHAIN + ";rests y u", 0, 0);
    }

    private static void allOthers() {
        strikes(going("u") + ";rests u v;rests u w;rests u x;rests u y", 0, 30);
        strikes(going("y") + ";rests y u;rests y v;rests y w;rests y x", 4, 15);
        strikes(going("w") + ";rests w u;rests w v;rests w x;rests w y", 2, 27);
    }

    private static void fewest() {
        // both v and w rest on y, which alone doesn't go
        strikes(going("uvw") + ";rests u v;rests u w;rests v y;rests w y", 0, 16);
        // x and y don't go, but v is the only way to both
        strikes(going("uvw") + ";rests u v;rests v x;rests v y", 0, 2);
    }

    private static void leastBitsOfLikeOnes() {
        strikes(going("uvwx") + CHAIN, 0, 2);
        strikes(going("uvwx") + CHAIN, 1, 4);
        strikes(going("uvwx") + CHAIN, 3, 16);
        strikes(going("vwxy") + ";rests y x;rests x w;rests w v;rests v u", 4, 1);
    }

    private static void notItself() {
        // in a ring with v, which rests on y: u may not be struck for itself
        strikes(going("uvwx") + ";rests u v;rests v u;rests v y", 0, 2);
        strikes(going("uvwx") + ";rests u v;rests v u;rests v y", 1, 16);
        strikes(going("uv") + ";rests u w;rests w u", 0, 4);
    }

    private static void restingOnThemMeansNothing() {
        // with y struck v and w go, on which u rests too
        strikes(going("uvw") + ";rests u v;rests v w;rests w y;rests u y", 0, 16);
    }

    private static void nowAndDaysGoneBy() {
        SafeSenate x = Due.of(going("uvwxy").replace("good 9", "good 4") + CHAIN);
        Edge.granted("y falls on day 4", x, x.strike(0), 2);
        Edge.days(x, 9);
        Edge.granted("all gone by", x, x.strike(0), 2);
        Edge.granted("y doesn't go by itself", x, x.strike(4), -2);
    }
}
