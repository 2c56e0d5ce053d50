/** Promises 17 to 23: hang, hangAt, longest, longestAt, bestSwap, toSalt, keyMan. */
public final class HungTest {
    private static final String TWO = "safe quorum 2 heat 5 thunder 0 salt 1;hook a air 0;hook b air 4;hook c air 5;"
        + "senator p fresh at a good 10 votes 1;senator q fresh at b good 4 votes 1";

    public static void main(String[] args) {
        hang();
        longest();
        swaps();
        salting();
        keyMen();
        refusals();
        Due.end();
    }

    private static void hang() {
        SafeSenate x = Due.of(TWO);
        Due.is("now all are good", x.hang(0), 2);
        Due.is("the first hook", x.hangAt(0, 0), 0);
        Due.is("the second", x.hangAt(1, 0), 1);
        Due.is("in 1 day", x.hang(1), 2);
        Due.is("p stays at a", x.hangAt(0, 1), 0);
        Due.is("q at b", x.hangAt(1, 1), 1);
        Due.is("in 2 days", x.hang(2), 2);
        Due.is("p at b", x.hangAt(0, 2), 1);
        Due.is("q at c", x.hangAt(1, 2), 2);
        Due.is("in 4 days q is off wherever", x.hang(4), 1);
        Due.is("p at b in 4", x.hangAt(0, 4), 1);
        Due.is("q at a in 4", x.hangAt(1, 4), 0);
        Due.is("in 60", x.hang(60), 0);
        Due.is("the first of like ones", x.hangAt(0, 60), 0);
        Due.is("the first of like ones, q", x.hangAt(1, 60), 1);
        Due.is("nothing is hung elsewhere", x.senator(0, 1), 0);
    }

    private static void longest() {
        SafeSenate x = Due.of(TWO);
        Due.is("lasts", x.lasts(), 2);
        Due.is("longest", x.longest(), 4);
        Due.is("p at b", x.longestAt(0), 1);
        Due.is("q at c", x.longestAt(1), 2);
        SafeSenate y = Due.of(TWO.replace("quorum 2", "quorum 1"));
        Due.is("one is enough", y.longest(), 10);
        Due.is("p at b for that", y.longestAt(0), 1);
        Due.is("q anywhere", y.longestAt(1), 0);
        SafeSenate z = Due.of(TWO.replace("quorum 2", "quorum 3"));
        Due.is("never a quorum", z.longest(), 0);
        Due.is("so the first", z.longestAt(0), 0);
        SafeSenate cold = Due.of("safe quorum 1 heat 2 thunder 0 salt 0;hook a air 0;hook b air 1;senator p cold at a good 5 votes 1");
        Due.is("at most 99", cold.longest(), 99);
        Due.is("at b", cold.longestAt(0), 1);
    }

    private static void swaps() {
        SafeSenate x = Due.of(TWO);
        // changed over: p at b 10 days, q at a 1 day
        Due.is("by none more", x.bestSwap(), -2);
        SafeSenate y = Due.of(TWO.replace("quorum 2", "quorum 1"));
        Due.is("p and q", y.bestSwap(), 1);
        SafeSenate z = Due.of("safe quorum 1 heat 9 thunder 0 salt 0;hook a air 0;hook b air 8;hook c air 9;"
            + "senator p cold at b good 1 votes 1;senator q fresh at a good 9 votes 1;senator r fresh at c good 1 votes 1");
        // p lasts 99 days at b as it is: nothing is more
        Due.is("not above 99", z.bestSwap(), -2);
        SafeSenate w = Due.of("safe quorum 1 heat 9 thunder 0 salt 0;hook a air 0;hook b air 8;hook c air 9;"
            + "senator p fresh at b good 1 votes 1;senator q fresh at a good 9 votes 1;senator r fresh at c good 1 votes 1");
        Due.is("the first of like ones", w.bestSwap(), 1);
        SafeSenate v = Due.of("safe quorum 1 heat 9 thunder 0 salt 0;hook a air 0;hook b air 7;hook c air 9;"
            + "senator p fresh at b good 1 votes 1;senator q fresh at a good 9 votes 1;senator r fresh at c good 1 votes 1");
        Due.is("q and r", v.bestSwap(), 12);
        Due.is("one has nobody", Due.of("safe quorum 1 heat 9 thunder 0 salt 0;hook a air 0;hook b air 9;"
            + "senator p fresh at a good 9 votes 1").bestSwap(), -2);
    }

    private static void salting() {
        SafeSenate x = Due.of(TWO);
        // p salted lasts 19 days, q 4: 4; q salted changes nothing (p 2)
        Due.is("p", x.toSalt(), 0);
        x.salt(0);
        Due.is("no salt", x.toSalt(), -2);
        SafeSenate y = Due.of(TWO.replace("salt 1", "salt 2"));
        y.salt(0);
        Due.is("then q", y.toSalt(), 1);
        y.day();
        Due.is("from an odd day", y.toSalt(), 1);
        SafeSenate z = Due.of("safe quorum 2 heat 5 thunder 0 salt 1;hook a air 0;hook b air 0;"
            + "senator p fresh at a good 9 votes 1;senator q fresh at b good 9 votes 1");
        Due.is("by none more", z.toSalt(), -2);
        SafeSenate w = Due.of("safe quorum 1 heat 5 thunder 0 salt 1;hook a air 0;hook b air 0;"
            + "senator p fresh at a good 8 votes 1;senator q fresh at b good 8 votes 1");
        Due.is("the first of like ones", w.toSalt(), 0);
        SafeSenate v = Due.of(TWO.replace("salt 1", "salt 0"));
        Due.is("no salt told", v.toSalt(), -2);
    }

    private static void keyMen() {
        SafeSenate x = Due.of("safe quorum 1 heat 1 thunder 0 salt 0;hook a air 0;hook b air 0;hook c air 0;"
            + "senator p fresh at a good 9 votes 1;senator q fresh at b good 9 votes 5;senator r fresh at c good 9 votes 2;"
            + "act x day 0;act y day 3;act z day 4;for q x;for q y;for r z;rests y x");
        Due.is("q", x.keyMan(), 1);
        x.day();
        Due.is("without q y falls, but z goes: the first", x.keyMan(), 0);
        x.day();
        x.day();
        x.day();
        Due.is("without p, r: z would go or not", x.keyMan(), 0);
        SafeSenate w = Due.of("safe quorum 1 heat 1 thunder 0 salt 0;hook a air 0;hook b air 0;"
            + "senator p fresh at a good 9 votes 1;senator q fresh at b good 9 votes 5;"
            + "act x day 0;act y day 1;act z day 2;for q x;for p y;for q z");
        Due.is("without q x and z fall, but y goes", w.keyMan(), 1);
        w.day();
        Due.is("x is of a day gone by", w.keyMan(), 0);
        SafeSenate y = Due.of("safe quorum 2 heat 1 thunder 0 salt 0;hook a air 0;hook b air 0;hook c air 0;"
            + "senator p fresh at a good 1 votes 1;senator q fresh at b good 9 votes 5;senator r fresh at c good 9 votes 2;"
            + "act x day 0;act y day 3;for q x;for q y");
        y.day();
        Due.is("who is OFF counts too, but q first spoils y", y.keyMan(), 1);
        Due.is("no acts: the first", Due.of(TWO).keyMan(), 0);
    }

    private static void refusals() {
        SafeSenate none = new SafeSenate();
        Due.refused("hang", none, none.hang(99), 1);
        Due.refused("hangAt", none, none.hangAt(0, 99), 1);
        Due.refused("longest", none, none.longest(), 1);
        Due.refused("longestAt", none, none.longestAt(0), 1);
        Due.refused("bestSwap", none, none.bestSwap(), 1);
        Due.refused("toSalt", none, none.toSalt(), 1);
        Due.refused("keyMan", none, none.keyMan(), 1);
        SafeSenate x = Due.of(TWO);
        Due.refused("hang 61", x, x.hang(61), 2);
        Due.refused("hang -1", x, x.hang(-1), 2);
        Due.refused("hangAt s", x, x.hangAt(2, 61), 1);
        Due.refused("hangAt n", x, x.hangAt(1, 61), 2);
        Due.refused("hangAt n -1", x, x.hangAt(1, -1), 2);
        Due.refused("longestAt s", x, x.longestAt(2), 1);
        Due.refused("longestAt -1", x, x.longestAt(-1), 1);
        x.longest();
        Due.is("not refused", x.trouble(), 0);
    }
}
