/** Promises 29 to 32: fallsWith, strike, keystone, ring. */
public final class RestingTest {
    private static final String HEAD = "safe quorum 1 heat 1 thunder 0 salt 0;hook a air 0;senator p fresh at a good 9 votes 1;"
        + "act u day 0;act v day 1;act w day 2;act x day 3;act y day 4";
    private static final String ALL = ";for p u;for p v;for p w;for p x;for p y";

    public static void main(String[] args) {
        falls();
        rings();
        strikes();
        refusals();
        Due.end();
    }

    private static void falls() {
        SafeSenate x = Due.of(HEAD + ";rests u v;rests v w;rests x w");
        int[] want = {1, 3, 15, 8, 16};
        for (int a = 0; a < 5; a++) {
            Due.is("falls with " + a, x.fallsWith(a), want[a]);
        }
        Due.is("keystone", x.keystone(), 2);
        Due.is("ring", x.ring(), 0);
        SafeSenate flat = Due.of(HEAD);
        Due.is("itself", flat.fallsWith(4), 16);
        Due.is("no others fall: the first", flat.keystone(), 0);
        SafeSenate like = Due.of(HEAD + ";rests u y;rests v x");
        Due.is("the first of like ones", like.keystone(), 3);
        SafeSenate none = Due.of("safe quorum 1 heat 1 thunder 0 salt 0;hook a air 0;senator p fresh at a good 9 votes 1");
        Due.is("no act", none.keystone(), -2);
        Due.is("no trouble", none.trouble(), 0);
        Due.is("no ring", none.ring(), 0);
    }

    private static void rings() {
        SafeSenate two = Due.of(HEAD + ALL + ";rests u v;rests v u");
        Due.is("ring of two", two.ring(), 1);
        Due.is("a ring goes", two.going(), 31);
        Due.is("both fall", two.fallsWith(1), 3);
        SafeSenate five = Due.of(HEAD + ALL + ";rests u v;rests v w;rests w x;rests x y;rests y u");
        Due.is("ring of five", five.ring(), 1);
        Due.is("all go", five.going(), 31);
        Due.is("all fall", five.fallsWith(3), 31);
        SafeSenate spoilt = Due.of(HEAD + ";for p u;for p v;for p w;for p x;rests u v;rests v w;rests w u;rests w y");
        Due.is("a ring falls by one", spoilt.going(), 8);
        SafeSenate inside = Due.of(HEAD + ";for p u;for p v;for p x;rests u v;rests v w;rests w u");
        Due.is("a ring falls by its own", inside.going(), 8);
        SafeSenate fork = Due.of(HEAD + ";rests u v;rests u w;rests v x;rests w x");
        Due.is("a fork is no ring", fork.ring(), 0);
    }

    private static void strikes() {
        SafeSenate x = Due.of(HEAD + ";for p u;for p v;for p w;rests u v;rests v x;rests u y;rests w x");
        // u needs y and (v or x) struck: v (2) and y (16)
        Due.is("least bits", x.strike(0), 18);
        Due.is("v", x.strike(1), 8);
        Due.is("w", x.strike(2), 8);
        Due.is("x doesn't go by itself", x.strike(3), -2);
        Due.is("no trouble", x.trouble(), 0);
        SafeSenate y = Due.of(HEAD + ALL + ";rests u v;rests v u");
        Due.is("goes as it is", y.strike(0), 0);
        SafeSenate z = Due.of(HEAD + ";for p u;for p v;for p w;rests u v;rests u w;rests v y;rests w y");
        Due.is("one below two", z.strike(0), 16);
        SafeSenate gone = Due.of(HEAD.replace("good 9", "good 3") + ALL + ";rests u y");
        Due.is("y is put when nobody is good", gone.strike(0), 16);
        gone.day();
        Due.is("u of a day gone by", gone.strike(0), 16);
    }

    private static void refusals() {
        SafeSenate none = new SafeSenate();
        Due.refused("fallsWith", none, none.fallsWith(0), 1);
        Due.refused("strike", none, none.strike(0), 1);
        Due.refused("keystone", none, none.keystone(), 1);
        Due.refused("ring", none, none.ring(), 1);
        SafeSenate x = Due.of(HEAD);
        int[] wild = {-1, 5, Integer.MAX_VALUE, Integer.MIN_VALUE};
        for (int w : wild) {
            Due.refused("fallsWith " + w, x, x.fallsWith(w), 1);
            Due.refused("strike " + w, x, x.strike(w), 1);
        }
    }
}
