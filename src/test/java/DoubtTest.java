/** Promises 24 to 28: since, sinceAt, look, lookLeaves, judge. */
public final class DoubtTest {
    private static final String HEAD = "safe quorum 1 heat 1 thunder 100 salt 3;hook a air 0;hook b air 0;"
        + "senator p fresh at a good 5 votes 3;senator q fresh at b good 99 votes 2;"
        + "act x day 4;act y day 10;act z day 20;for p x;for p y;for p z";

    public static void main(String[] args) {
        days();
        looks();
        atFirst();
        judged();
        refusals();
        Due.end();
    }

    private static void days() {
        SafeSenate x = Due.of(HEAD + ";doubted p;went x;fell z");
        Due.is("since", x.since(), 16);
        Due.is("the first", x.sinceAt(0), 5);
        Due.is("the last", x.sinceAt(15), 20);
        SafeSenate free = Due.of(HEAD + ";doubted p");
        Due.is("nothing told: all days", free.since(), 42);
        Due.is("day 0", free.sinceAt(0), 0);
        Due.is("not by day 40", free.sinceAt(41), 41);
        SafeSenate never = Due.of(HEAD + ";doubted p;fell x;went y");
        Due.is("no day fits", never.since(), 0);
        Due.refused("none such", never, never.sinceAt(0), 1);
        Due.is("look -2", never.look(), -2);
        Due.is("lookLeaves -2", never.lookLeaves(), -2);
        Due.is("no trouble", never.trouble(), 0);
        SafeSenate last = Due.of(HEAD.replace("day 20", "day 40") + ";doubted p;went z");
        Due.is("only 41", last.since(), 1);
        Due.is("41", last.sinceAt(0), 41);
        SafeSenate resting = Due.of(HEAD + ";rests x z;doubted p;fell x");
        Due.is("x falls with z", resting.since(), 21);
    }

    private static void looks() {
        SafeSenate x = Due.of(HEAD + ";doubted p");
        // y splits 42 days into 0..10 and 11..41, z into 0..20 and 21..41
        Due.is("look", x.look(), 2);
        Due.is("leaves", x.lookLeaves(), 21);
        SafeSenate y = Due.of(HEAD + ";doubted p;went x;fell z");
        // 5..20: y goes by 11..20
        Due.is("y", y.look(), 1);
        Due.is("y leaves", y.lookLeaves(), 10);
        SafeSenate z = Due.of(HEAD + ";doubted p;went x;fell y;fell z");
        Due.is("told ones too, the first", z.look(), 0);
        Due.is("all are left", z.lookLeaves(), 6);
        SafeSenate none = Due.of("safe quorum 1 heat 1 thunder 0 salt 0;hook a air 0;senator p cold at a good 1 votes 1;doubted p");
        Due.is("no act", none.look(), -2);
        Due.is("no act leaves", none.lookLeaves(), -2);
        Due.is("all days", none.since(), 42);
    }

    /** What happens later changes nothing for the others, who are as told at first. */
    private static void atFirst() {
        SafeSenate x = Due.of(HEAD + ";doubted p;went x;fell z");
        x.salt(0);
        x.salt(1);
        x.day();
        x.day();
        x.move(0, 1);
        Due.is("since as ever", x.since(), 16);
        Due.is("judge as ever", x.judge(), -2);
        SafeSenate belied = Due.of(HEAD.replace("day 10", "day 8") + ";went y");
        belied.salt(0);
        belied.day();
        Due.is("y goes by p salted", belied.going(), 3);
        Due.is("but not as told at first", belied.judge(), 1);
        SafeSenate y = Due.of(HEAD.replace("good 99", "good 15") + ";for q z;doubted p;went z");
        Due.is("q is off by day 15, so only p", y.since(), 21);
        Due.is("from 21", y.sinceAt(0), 21);
    }

    private static void judged() {
        // p is off from day 5 on: x goes on day 4, y and z fall
        Due.is("nothing told", Due.of(HEAD).judge(), -2);
        Due.is("x on day 4 goes", Due.of(HEAD + ";fell x").judge(), 0);
        Due.is("all so", Due.of(HEAD + ";fell y;fell z").judge(), -2);
        Due.is("y belied", Due.of(HEAD + ";went z;went y").judge(), 1);
        Due.is("z belied", Due.of(HEAD + ";went z;fell y").judge(), 2);
        Due.is("x goes", Due.of(HEAD + ";went x").judge(), -2);
    }

    private static void refusals() {
        SafeSenate none = new SafeSenate();
        Due.refused("since", none, none.since(), 1);
        Due.refused("sinceAt", none, none.sinceAt(0), 1);
        Due.refused("look", none, none.look(), 1);
        Due.refused("lookLeaves", none, none.lookLeaves(), 1);
        Due.refused("judge", none, none.judge(), 1);
        SafeSenate x = Due.of(HEAD);
        Due.refused("since", x, x.since(), 6);
        Due.refused("sinceAt", x, x.sinceAt(0), 6);
        Due.refused("look", x, x.look(), 6);
        Due.refused("lookLeaves", x, x.lookLeaves(), 6);
        x.judge();
        Due.is("judge needs nobody doubted", x.trouble(), 0);
        SafeSenate y = Due.of(HEAD + ";doubted q");
        Due.refused("sinceAt -1", y, y.sinceAt(-1), 1);
        Due.refused("sinceAt 42", y, y.sinceAt(42), 1);
        Due.refused("sinceAt MAX", y, y.sinceAt(Integer.MAX_VALUE), 1);
    }
}
