/** Promise 1: a new object has no SAFE. */
public final class Promise01NewObjectTest {
    public static void main(String[] args) {
        toldAreNone();
        questionsAreRefused();
        questionsByNumbersAreRefused();
        longQuestionsAreRefused();
        actsAreRefused();
        objectsShareNothing();
        answersUpToItsLastCall();
        Due.end();
    }

    private static void toldAreNone() {
        SafeSenate x = new SafeSenate();
        for (int what = 0; what <= 15; what++) {
            Due.is("size " + what, x.size(what), 0);
        }
        Due.is("size 16", x.size(16), -1);
        Due.is("trouble", x.trouble(), 0);
        Due.is("fault", x.fault(), 0);
        Due.is("where", x.where(), -1);
        Due.is("led", Edge.led(x, 0), -1);
        Due.is("NONE", SafeSenate.NONE, -1);
    }

    private static void no(String what, Edge.Call call) {
        Edge.refused("no SAFE: " + what, SafeSenate::new, call, 1);
    }

    private static void questionsAreRefused() {
        no("good", x -> x.good());
        no("quorum", x -> x.quorum());
        no("lasts", x -> x.lasts());
        no("going", x -> x.going());
        no("nextAct", x -> x.nextAct());
        no("longest", x -> x.longest());
        no("bestSwap", x -> x.bestSwap());
        no("toSalt", x -> x.toSalt());
        no("keyMan", x -> x.keyMan());
        no("since", x -> x.since());
        no("look", x -> x.look());
        no("lookLeaves", x -> x.lookLeaves());
        no("judge", x -> x.judge());
        no("keystone", x -> x.keystone());
        no("ring", x -> x.ring());
        no("strongest", x -> x.strongest());
    }

    /** Right numbers and wrong ones: that there is no SAFE is told ahead of a number. */
    private static void questionsByNumbersAreRefused() {
        for (int number : new int[] {-1, 0}) {
            no("senator", x -> x.senator(number, 0));
            no("hook", x -> x.hook(number, 0));
            no("act", x -> x.act(number, 0));
            no("goodIn", x -> x.goodIn(0, number));
            no("offIn", x -> x.offIn(number));
            no("margin", x -> x.margin(number));
            no("hang", x -> x.hang(number));
            no("hangAt", x -> x.hangAt(0, number));
            no("longestAt", x -> x.longestAt(number));
            no("sinceAt", x -> x.sinceAt(number));
            no("fallsWith", x -> x.fallsWith(number));
            no("strike", x -> x.strike(number));
            no("rests", x -> x.rests(number));
            no("rest", x -> x.rest(number));
            no("days", x -> x.days(number, number));
            no("thunders", x -> x.thunders(number, number));
        }
    }

    private static void longQuestionsAreRefused() {
        for (int number : new int[] {-1, 0}) {
            Edge.refused("no SAFE: wire", SafeSenate::new, x -> x.wire(number, false, false, false), -100, 1);
            for (boolean lower : new boolean[] {false, true}) {
                no("power", x -> x.power(number, lower));
                no("odds", x -> x.odds(number, lower));
                no("goodOdds", x -> x.goodOdds(0, number, lower));
                no("mean", x -> x.mean(number, lower));
            }
        }
    }

    private static void actsAreRefused() {
        no("day", x -> x.day());
        no("move", x -> x.move(0, 0));
        no("image", x -> x.image());
        Edge.refused("no SAFE: salt", SafeSenate::new, x -> x.salt(0) ? 1 : 0, 0, 1);
        Edge.refused("no SAFE: seed", SafeSenate::new, x -> x.seed(0) ? 1 : 0, 0, 1);
        Edge.refused("no SAFE: seed out of bounds", SafeSenate::new, x -> x.seed(-1) ? 1 : 0, 0, 1);
        Edge.refused("no SAFE: back", SafeSenate::new, x -> x.back(0) ? 1 : 0, 0, 1);
        Edge.refused("no SAFE: undo", SafeSenate::new, x -> x.undo() ? 1 : 0, 0, 6);
    }

    private static void objectsShareNothing() {
        SafeSenate x = Due.of(Edge.FULL);
        SafeSenate y = new SafeSenate();
        Edge.used();
        Due.refused("another object's SAFE", y, y.good(), 1);
        Due.is("another object's TROUBLE", x.trouble(), 0);
        Due.is("another object's senators", x.size(5), 6);
        x.feed(0, 0, 0, 0, 0);
        Due.is("another object's tape", y.size(15), 0);
    }

    /** An object is used for at most 512 calls: the last of them is answered as ever. */
    private static void answersUpToItsLastCall() {
        SafeSenate x = new SafeSenate();
        int feeds = (Edge.FULL.length() + 19) / 20;
        Due.tell(x, Edge.FULL);
        for (int call = feeds + 2; call < 512; call++) {
            x.longest();
        }
        Due.is("the 512th call", x.good(), 63);
    }
}
