/** Promise 14: going. */
public final class Promise14GoingTest {
    private static final String ONE = "safe quorum 1 heat 1 thunder 0 salt 1" + Edge.hooks(0, 0) + Edge.seat(0, "fresh", 0, 99, 1);
    private static final String FIVE = ONE + ";act u day 0;act v day 1;act w day 2;act x day 3;act y day 40";
    private static final String ALL = ";for pa u;for pa v;for pa w;for pa x;for pa y";

    public static void main(String[] args) {
        noneAndAll();
        asManyAsTheQuorumThen();
        moreVotesThanTheOthers();
        ofThemThatAreGoodThen();
        daysGoneBy();
        chains();
        rings();
        theLastDay();
        Edge.asks("going", x -> x.going());
        Due.end();
    }

    private static void going(String text, int bits) {
        SafeSenate x = Due.of(text);
        Edge.granted(text, x, x.going(), bits);
    }

    private static void noneAndAll() {
        going(ONE, 0);
        going(FIVE, 0);
        going(FIVE + ALL, 31);
    }

    private static void asManyAsTheQuorumThen() {
        // the second one is GOOD on days 0 and 1 alone
        String two = FIVE + Edge.seat(1, "fresh", 1, 2, 0) + ALL;
        going(two.replace("quorum 1", "quorum 2"), 3);
        going(two, 31);
        going(two.replace("quorum 1", "quorum 3"), 0);
    }

    private static void moreVotesThanTheOthers() {
        int[] against = {0, 1, 2, 3, 9};
        int[] goes = {1, 1, 0, 0, 0};
        for (int i = 0; i < against.length; i++) {
            going("safe quorum 1 heat 1 thunder 0 salt 0" + Edge.hooks(0, 0) + Edge.seat(0, "cold", 0, 9, 2)
                + Edge.seat(1, "cold", 1, 9, against[i]) + ";act u day 0;for pa u", goes[i]);
        }
        going("safe quorum 1 heat 1 thunder 0 salt 0" + Edge.hooks(0) + Edge.seat(0, "cold", 0, 9, 0) + ";act u day 0;for pa u", 0);
    }

    private static void ofThemThatAreGoodThen() {
        // pb with more votes is against: he is GOOD on day 0, OFF from day 1 on
        going(FIVE + Edge.seat(1, "fresh", 1, 1, 9) + ALL, 30);
        // pa alone is for it, and OFF from day 3 on
        going((FIVE + ALL).replace("good 99", "good 3"), 7);
    }

    private static void daysGoneBy() {
        SafeSenate x = Due.of((FIVE + ALL).replace("good 99", "good 2"));
        Edge.granted("ahead", x, x.going(), 3);
        x.day();
        x.salt(0);
        // 1 day left, salted on day 1: nothing is lost by that DAY, 1 by the next
        Edge.granted("salted later", x, x.going(), 7);
        Edge.days(x, 2);
        Edge.granted("all but the last are gone by", x, x.going(), 7);
        x.undo();
        x.undo();
        x.undo();
        Edge.granted("undone", x, x.going(), 3);
    }

    private static void chains() {
        String chain = ";rests u v;rests v w;rests w x;rests x y";
        going(FIVE + ALL + chain, 31);
        going(FIVE + ALL.replace(";for pa y", "") + chain, 0);
        going(FIVE + ALL.replace(";for pa u", "") + chain, 30);
        going(FIVE + ALL.replace(";for pa w", "") + chain, 24);
    }

    private static void rings() {
        String ring = ";rests u v;rests v w;rests w u";
        going(FIVE + ALL + ";rests u v;rests v u", 31);
        going(FIVE + ALL + ";rests u v;rests v w;rests w x;rests x y;rests y u", 31);
        going(FIVE + ALL.replace(";for pa v", "") + ring, 24);
        going(FIVE + ALL.replace(";for pa y", "") + ring + ";rests v x;rests x y", 0);
        going(FIVE + ALL.replace(";for pa y", "") + ring + ";rests y u", 15);
        going(FIVE + ALL + ring + ";rests w x;rests x y", 31);
        going(FIVE + ALL.replace(";for pa y", "") + ring + ";rests x u", 15);
    }

    private static void theLastDay() {
        String last = FIVE.replace("good 99", "good 41") + ALL;
        going(last, 31);
        going(last.replace("good 41", "good 40"), 15);
        SafeSenate x = Due.of(last);
        Edge.days(x, 40);
        Edge.granted("on day 40", x, x.going(), 31);
        x.day();
        Edge.granted("behind it", x, x.going(), 31);
        Edge.days(x, 58);
        Edge.granted("on day 99", x, x.going(), 31);
        SafeSenate y = Due.of(last.replace("good 41", "good 40"));
        Edge.days(y, 41);
        Edge.granted("he was OFF on day 40, seen from behind it", y, y.going(), 15);
    }
}
