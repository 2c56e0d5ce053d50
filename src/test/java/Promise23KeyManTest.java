/** Promise 23: keyMan. */
public final class Promise23KeyManTest {
    private static final String HEAD = "safe quorum 1 heat 1 thunder 0 salt 0";

    public static void main(String[] args) {
        noActs();
        theLast();
        ofLikeOnesTheFirst();
        allActsGoWithoutAny();
        forTheQuorum();
        fewestNotMost();
        actsOfNowAndOfDaysGoneBy();
        actsThatRest();
        whoIsOff();
        Edge.asks("keyMan", x -> x.keyMan());
        Due.end();
    }

    private static void key(String what, String text, int one) {
        SafeSenate x = Due.of(text);
        Edge.granted(what, x, x.keyMan(), one);
    }

    private static void noActs() {
        key("one alone", HEAD + Edge.hooks(0) + Edge.seat(0, "cold", 0, 9, 1), 0);
        key("no act", HEAD + Edge.hooks(0, 0) + Edge.seats("cold", 9, 1, 0, 1), 0);
    }

    private static void theLast() {
        key("the sixth", HEAD + Edge.hooks(0, 0, 0, 0, 0, 0) + Edge.seats("cold", 9, 0, 0, 1, 2, 3, 4)
            + Edge.seat(5, "cold", 5, 9, 1) + ";act u day 0;for pf u", 5);
    }

    private static void ofLikeOnesTheFirst() {
        key("none matters", HEAD + Edge.hooks(0, 0) + Edge.seats("cold", 9, 0, 0, 1) + ";act u day 0", 0);
        key("the second and the third", HEAD + Edge.hooks(0, 0, 0) + Edge.seat(0, "cold", 0, 9, 1) + Edge.seat(1, "cold", 1, 9, 1)
            + Edge.seat(2, "cold", 2, 9, 1) + ";act u day 0;for pb u;for pc u", 1);
    }

    private static void allActsGoWithoutAny() {
        key("five acts", HEAD + Edge.hooks(0, 0) + Edge.seats("cold", 9, 1, 0, 1) + ";act u day 0;act v day 0;act w day 0;act x day 0;"
            + "act y day 0;for pa u;for pb u;for pa v;for pb v;for pa w;for pb w;for pa x;for pb x;for pa y;for pb y", 0);
    }

    private static void forTheQuorum() {
        // pb has no votes, but without him there is no quorum by day 1, when pc is OFF
        key("by being there", HEAD.replace("quorum 1", "quorum 2") + Edge.hooks(0, 0, 0) + Edge.seat(0, "cold", 0, 9, 0)
            + Edge.seat(1, "cold", 1, 9, 3) + Edge.seat(2, "fresh", 2, 1, 0) + ";act u day 1;for pb u", 0);
    }

    private static void fewestNotMost() {
        // without pa u and v go, without pb neither
        key("more go without the other one", HEAD + Edge.hooks(0, 0) + Edge.seat(0, "cold", 0, 9, 2)
            + Edge.seat(1, "cold", 1, 9, 1) + ";act u day 0;act v day 0;for pb u;for pb v", 1);
    }

    private static void actsOfNowAndOfDaysGoneBy() {
        SafeSenate x = Due.of(HEAD + Edge.hooks(0, 0) + Edge.seat(0, "cold", 0, 9, 0) + Edge.seat(1, "cold", 1, 9, 1)
            + ";act u day 1;for pb u");
        Edge.granted("of a day to come", x, x.keyMan(), 1);
        x.day();
        Edge.granted("of NOW's day", x, x.keyMan(), 1);
        x.day();
        Edge.granted("of a day gone by", x, x.keyMan(), 0);
    }

    private static void actsThatRest() {
        key("three fall with one", HEAD + Edge.hooks(0, 0, 0) + Edge.seat(0, "cold", 0, 9, 2) + Edge.seat(1, "cold", 1, 9, 2)
            + Edge.seat(2, "fresh", 2, 1, 9) + ";act u day 0;act v day 1;act w day 1;act x day 1;for pc u;for pa v;for pb v"
            + ";for pa w;for pb w;for pa x;for pb x;rests v u;rests w u;rests x w", 2);
    }

    private static void whoIsOff() {
        SafeSenate x = Due.of(HEAD + Edge.hooks(0, 0) + Edge.seat(0, "fresh", 0, 1, 9) + Edge.seat(1, "cold", 1, 9, 1)
            + ";act u day 5;for pb u");
        x.day();
        Edge.granted("without one who is OFF all is as it is", x, x.keyMan(), 1);
        SafeSenate y = Due.of(HEAD + Edge.hooks(0, 0) + Edge.seats("fresh", 1, 9, 0, 1) + ";act u day 5;for pb u");
        y.day();
        Edge.granted("all are OFF: the first", y, y.keyMan(), 0);
    }
}
