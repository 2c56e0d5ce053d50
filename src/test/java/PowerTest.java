/** Promises 33 and 34: power, strongest; and 35 to 37: wire, rests, rest. */
public final class PowerTest {
    public static void main(String[] args) {
        powers();
        strongest();
        wires();
        rests();
        refusals();
        Due.end();
    }

    private static SafeSenate votes(int... votes) {
        StringBuilder text = new StringBuilder("safe quorum 6 heat 1 thunder 0 salt 0");
        for (int i = 0; i < votes.length; i++) {
            text.append(";hook ").append((char) ('a' + i)).append(" air 0");
        }
        for (int i = 0; i < votes.length; i++) {
            text.append(";senator ").append((char) ('p' + i)).append(" fresh at ").append((char) ('a' + i))
                .append(" good ").append(i + 1).append(" votes ").append(votes[i]);
        }
        return Due.of(text.toString());
    }

    private static void powerIs(SafeSenate x, int s, long upper, long lower) {
        Due.is("power " + s, x.power(s, false), upper);
        Due.is("power by " + s, x.power(s, true), lower);
        Due.is("no trouble", x.trouble(), 0);
    }

    private static void powers() {
        SafeSenate x = votes(1, 3, 1, 1);
        // all 6: q swings {}: 3 is not more than 3; any one of three: yes; any two: yes; all three: 3 <= 3, yes
        powerIs(x, 1, 7, 8);
        // p swings sets of 3 votes: {q}, {r, s} has 2 + 1 = 3, no more
        powerIs(x, 0, 1, 8);
        x.day();
        // q 3, r 1, s 1 of 5
        powerIs(x, 1, 1, 1);
        powerIs(x, 2, 0, 1);
        Due.refused("p is OFF", x, x.power(0, true), 5);
        x.day();
        x.day();
        powerIs(x, 3, 1, 1);
        SafeSenate zero = votes(0, 0);
        powerIs(zero, 0, 0, 1);
        SafeSenate six = votes(1, 1, 1, 1, 1, 1);
        // three of the other five: 10 sets of 32
        powerIs(six, 5, 5, 16);
    }

    private static void strongest() {
        Due.is("q", votes(1, 3, 1, 1).strongest(), 1);
        Due.is("the first of like ones", votes(2, 2, 2).strongest(), 0);
        SafeSenate x = votes(9, 0, 2, 2);
        Due.is("p", x.strongest(), 0);
        x.day();
        Due.is("among the GOOD", x.strongest(), 2);
        x.day();
        x.day();
        Due.is("s alone", x.strongest(), 3);
        x.day();
        Due.is("nobody", x.strongest(), -2);
        Due.is("no trouble", x.trouble(), 0);
        Due.is("all of none", votes(0, 0).strongest(), 0);
    }

    private static void wires() {
        SafeSenate x = votes(1);
        for (int worth = 0; worth <= 20; worth++) {
            for (int of = 0; of < 2; of++) {
                boolean ofOther = of == 1;
                Due.is("nobody", x.wire(worth, false, false, ofOther), 0);
                Due.is("both " + worth, x.wire(worth, true, true, ofOther), worth / 2 - 2);
                Due.is("the one alone", x.wire(worth, true, false, ofOther), ofOther ? 1 : worth);
                Due.is("the other one alone", x.wire(worth, false, true, ofOther), ofOther ? worth : 1);
            }
        }
        Due.is("no trouble", x.trouble(), 0);
    }

    private static void rests() {
        SafeSenate x = votes(1);
        // worth 0: also nobody pushes; 1 .. 5: one of them; 6 and 7: both, too; from 8 on both only
        for (int worth = 0; worth <= 20; worth++) {
            int count = worth == 0 ? 3 : worth < 6 ? 2 : worth < 8 ? 3 : 1;
            int first = worth == 0 ? 0 : worth < 8 ? 1 : 11;
            Due.is("rests " + worth, x.rests(worth), count);
            Due.is("rest " + worth, x.rest(worth), first);
        }
        Due.is("no trouble", x.trouble(), 0);
    }

    private static void refusals() {
        SafeSenate none = new SafeSenate();
        Due.refused("power", none, none.power(0, true), 1);
        Due.refused("strongest", none, none.strongest(), 1);
        Due.refused("wire", none, none.wire(99, true, true, true), -100, 1);
        Due.refused("rests", none, none.rests(99), 1);
        Due.refused("rest", none, none.rest(99), 1);
        SafeSenate x = votes(1, 2);
        Due.refused("power 2", x, x.power(2, false), 1);
        Due.refused("power -1", x, x.power(-1, false), 1);
        int[] wild = {-1, 21, Integer.MAX_VALUE, Integer.MIN_VALUE};
        for (int w : wild) {
            Due.refused("wire " + w, x, x.wire(w, true, false, false), -100, 2);
            Due.refused("rests " + w, x, x.rests(w), 2);
            Due.refused("rest " + w, x, x.rest(w), 2);
        }
    }
}
