/** Promise 52: trouble. */
public final class Promise52TroubleTest {
    public static void main(String[] args) {
        newObject();
        eachNumber();
        zeroBehindOneThatWasnt();
        staysThroughTheOthers();
        anAnswerOfNothingIsNoRefusal();
        Due.end();
    }

    private static void newObject() {
        Due.is("none yet", new SafeSenate().trouble(), 0);
    }

    private static void eachNumber() {
        SafeSenate x = Due.of(Edge.TWO);
        Due.refused("there is none such", x, x.senator(2, 0), 1);
        Due.refused("a number", x, x.hang(61), 2);
        for (int i = 0; i < 3; i++) {
            x.image();
        }
        Due.refused("no room", x, x.image(), 3);
        Due.refused("a FAULT", x, x.safe(0), 4);
        Due.refused("not so", x, x.move(0, 0), 5);
        Due.refused("there is none", x, x.undo(), 6);
        Due.is("told again", x.trouble(), 6);
    }

    /** Each of the calls that may be refused, asked so that it isn't, behind one that was. */
    private static void zeroBehindOneThatWasnt() {
        Edge.Call[] calls = {x -> x.senator(0, 0), x -> x.hook(0, 0), x -> x.act(0, 0),
            x -> x.good(), x -> x.quorum(), x -> x.goodIn(0, 0), x -> x.offIn(0), x -> x.lasts(), x -> x.going(),
            x -> x.nextAct(), x -> x.margin(1), x -> x.hang(0), x -> x.hangAt(0, 0), x -> x.longest(), x -> x.longestAt(0),
            x -> x.bestSwap(), x -> x.toSalt(), x -> x.keyMan(), x -> x.since(), x -> x.sinceAt(0), x -> x.look(),
            x -> x.lookLeaves(), x -> x.judge(), x -> x.fallsWith(0), x -> x.strike(0), x -> x.keystone(), x -> x.ring(),
            x -> x.power(0, true), x -> x.strongest(), x -> x.wire(0, true, true, true), x -> x.rests(0), x -> x.rest(0),
            x -> x.odds(0, true), x -> x.goodOdds(0, 0, true), x -> x.mean(0, true), x -> x.days(0, 0), x -> x.thunders(0, 0),
            x -> x.day(), x -> x.move(0, 0), x -> x.salt(0) ? 1 : 0, x -> x.seed(0) ? 1 : 0, x -> x.undo() ? 1 : 0,
            x -> x.image(), x -> x.back(0) ? 1 : 0};
        for (int i = 0; i < calls.length; i++) {
            SafeSenate x = Edge.used();
            x.senator(9, 0);
            calls[i].on(x);
            Due.is("call " + i + " was not refused", x.trouble(), 0);
        }
        SafeSenate x = new SafeSenate();
        x.good();
        Due.tell(x, Edge.TWO);
        Due.is("safe was not refused", x.trouble(), 0);
    }

    private static void staysThroughTheOthers() {
        SafeSenate x = Edge.used();
        x.undo();
        Due.refused("a number", x, x.hang(-1), 2);
        x.feed(0, 0, 0, 0, 0);
        x.fault();
        x.where();
        x.size(0);
        x.size(-1);
        Edge.led(x, 0);
        x.trouble();
        Due.is("stays", x.trouble(), 2);
        while (x.feed(0, 0, 0, 0, 0) >= 0) {
            Due.is("stays while there is room", x.trouble(), 2);
        }
        Due.is("stays when THE TAPE is full", x.trouble(), 2);
    }

    /** -2 and 0 are answers. */
    private static void anAnswerOfNothingIsNoRefusal() {
        SafeSenate x = Edge.one("fresh", 1, 1);
        x.day();
        Edge.Call[] calls = {y -> y.nextAct(), y -> y.bestSwap(), y -> y.toSalt(), y -> y.judge(), y -> y.keystone(),
            y -> y.strongest()};
        for (Edge.Call call : calls) {
            x.hang(-1);
            Edge.granted("nothing", x, call.on(x), -2);
        }
        x.hang(-1);
        Edge.granted("nobody", x, x.good(), 0);
    }
}
