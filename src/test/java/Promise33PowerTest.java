/** Promise 33: power. */
public final class Promise33PowerTest {
    public static void main(String[] args) {
        noneSuch();
        heIsOff();
        alone();
        noMoreThanTheOthers();
        lowestTerms();
        sixOfThem();
        amongTheGood();
        Edge.asks("power", x -> x.power(0, true));
        Due.end();
    }

    /** Each is good for a day more than the one ahead of him. */
    static SafeSenate votes(int... votes) {
        StringBuilder text = new StringBuilder("safe quorum 6 heat 1 thunder 0 salt 0").append(Edge.hooks(new int[votes.length]));
        for (int s = 0; s < votes.length; s++) {
            text.append(Edge.seat(s, "fresh", s, s + 1, votes[s]));
        }
        return Due.of(text.toString());
    }

    private static SafeSenate later(int days, int... votes) {
        SafeSenate x = votes(votes);
        Edge.days(x, days);
        return x;
    }

    private static void power(String what, SafeSenate x, int s, long upper, long lower) {
        Edge.granted(what + ", upper of " + s, x, x.power(s, false), upper);
        Edge.granted(what + ", lower of " + s, x, x.power(s, true), lower);
    }

    private static void noneSuch() {
        Edge.refused("behind the last", Edge::used, x -> x.power(2, false), 1);
        Edge.refused("behind six", () -> Due.of(Edge.FULL), x -> x.power(6, true), 1);
        Edge.wild("senator", (x, wild) -> x.power(wild, true), 1);
    }

    private static void heIsOff() {
        for (boolean lower : new boolean[] {false, true}) {
            Edge.refused("one of two", () -> later(1, 1, 1), x -> x.power(0, lower), 5);
            Edge.refused("the last", () -> later(2, 1, 1), x -> x.power(1, lower), 5);
        }
        SafeSenate x = votes(1, 1);
        power("on his last day", x, 0, 1, 2);
    }

    private static void alone() {
        power("with a vote", votes(1), 0, 1, 1);
        power("with most votes", votes(9), 0, 1, 1);
        power("without", votes(0), 0, 0, 1);
    }

    /** A set with as many votes as the others has no more; with him it must have more. */
    private static void noMoreThanTheOthers() {
        for (int s = 0; s < 2; s++) {
            power("1 and 1", votes(1, 1), s, 1, 2);
            power("0 and 0", votes(0, 0), s, 0, 1);
        }
        power("2 and 1", votes(2, 1), 0, 1, 1);
        power("2 and 1", votes(2, 1), 1, 0, 1);
        // 2 of 4: no more without him, more with him, by the sets {q}, {r}, {q, r}
        power("2, 1 and 1", votes(2, 1, 1), 0, 3, 4);
        power("2, 1 and 1", votes(2, 1, 1), 1, 1, 4);
    }

    private static void lowestTerms() {
        for (int s = 0; s < 3; s++) {
            power("1, 1 and 1: 2 by 4", votes(1, 1, 1), s, 1, 2);
        }
        power("0 by 8", votes(9, 1, 1, 1), 3, 0, 1);
        power("8 by 8", votes(9, 1, 1, 1), 0, 1, 1);
    }

    private static void sixOfThem() {
        for (int s = 0; s < 6; s++) {
            power("all 9: 10 by 32", votes(9, 9, 9, 9, 9, 9), s, 5, 16);
        }
        power("only the last has votes", votes(0, 0, 0, 0, 0, 1), 5, 1, 1);
    }

    private static void amongTheGood() {
        SafeSenate x = later(1, 9, 1, 1);
        power("without the one who is OFF", x, 1, 1, 2);
        SafeSenate y = later(2, 9, 1, 1);
        power("the last alone", y, 2, 1, 1);
    }
}
