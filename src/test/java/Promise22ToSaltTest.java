/** Promise 22: toSalt. */
public final class Promise22ToSaltTest {
    private static final String HEAD = "safe quorum 1 heat 9 thunder 0 salt 1";

    public static void main(String[] args) {
        noSalt();
        byNoneMore();
        whoIsntSalted();
        theLast();
        ofLikeOnesTheFirst();
        mostDaysMore();
        notAboveNinetyNine();
        Edge.asks("toSalt", x -> x.toSalt());
        Due.end();
    }

    private static void salting(String what, String text, int one) {
        SafeSenate x = Due.of(text);
        Edge.granted(what, x, x.toSalt(), one);
    }

    private static void noSalt() {
        String two = HEAD + Edge.hooks(0, 0) + Edge.seat(0, "fresh", 0, 9, 1) + Edge.seat(1, "salted", 1, 1, 1);
        salting("one", two, 0);
        salting("none told", two.replace("salt 1", "salt 0"), -2);
        // both last one day; when the first is salted, the second would make it two for longer
        SafeSenate x = Due.of(HEAD.replace("quorum 1", "quorum 2") + Edge.hooks(0, 0) + Edge.seats("fresh", 9, 1, 0, 1));
        x.salt(0);
        Edge.granted("none left", x, x.toSalt(), -2);
        SafeSenate y = Due.of("safe quorum 2 heat 9 thunder 0 salt 2" + Edge.hooks(0, 0) + Edge.seats("fresh", 9, 1, 0, 1));
        y.salt(0);
        Edge.granted("one left", y, y.toSalt(), 1);
    }

    private static void byNoneMore() {
        salting("a cold one who loses nothing", HEAD + Edge.hooks(9) + Edge.seat(0, "cold", 0, 1, 1), -2);
        salting("two must last", HEAD.replace("quorum 1", "quorum 2") + Edge.hooks(0, 0) + Edge.seats("fresh", 9, 1, 0, 1), -2);
        salting("never a quorum", HEAD.replace("quorum 1", "quorum 2") + Edge.hooks(0) + Edge.seat(0, "fresh", 0, 9, 1), -2);
        salting("1 day is 1 day on an even day", HEAD + Edge.hooks(0) + Edge.seat(0, "fresh", 0, 1, 1), -2);
        salting("2 days are 3", HEAD + Edge.hooks(9) + Edge.seat(0, "fresh", 0, 2, 1), 0);
        SafeSenate odd = Due.of(HEAD + Edge.hooks(9) + Edge.seat(0, "fresh", 0, 2, 1));
        odd.day();
        Edge.granted("1 day is 2 days on an odd day", odd, odd.toSalt(), 0);
        odd.day();
        Edge.granted("who is OFF stays OFF", odd, odd.toSalt(), -2);
    }

    private static void whoIsntSalted() {
        salting("all are", HEAD + Edge.hooks(0, 0) + Edge.seats("salted", 9, 1, 0, 1), -2);
        SafeSenate x = Due.of(HEAD.replace("salt 1", "salt 2") + Edge.hooks(0, 0) + Edge.seat(0, "fresh", 0, 2, 1)
            + Edge.seat(1, "cold", 1, 9, 1));
        Edge.granted("the other one", x, x.toSalt(), 1);
        x.salt(1);
        Edge.granted("salted NOW", x, x.toSalt(), -2);
    }

    private static void theLast() {
        salting("the sixth", HEAD + Edge.hooks(0, 0, 0, 0, 0, 0) + Edge.seats("fresh", 1, 1, 0, 1, 2, 3, 4)
            + Edge.seat(5, "fresh", 5, 2, 1), 5);
    }

    private static void ofLikeOnesTheFirst() {
        salting("all alike", HEAD + Edge.hooks(0, 0, 0) + Edge.seats("fresh", 9, 1, 0, 1, 2), 0);
        salting("two alike", HEAD + Edge.hooks(0, 0, 0) + Edge.seat(0, "fresh", 0, 1, 1) + Edge.seat(1, "fresh", 1, 9, 1)
            + Edge.seat(2, "fresh", 2, 9, 1), 1);
    }

    private static void mostDaysMore() {
        salting("5 days, 17 days, 3 days", HEAD + Edge.hooks(0, 0, 0) + Edge.seat(0, "fresh", 0, 3, 1)
            + Edge.seat(1, "fresh", 1, 9, 1) + Edge.seat(2, "fresh", 2, 2, 1), 1);
    }

    private static void notAboveNinetyNine() {
        salting("99 is most", HEAD + Edge.hooks(9) + Edge.seat(0, "fresh", 0, 99, 1), -2);
        salting("98 is not", HEAD + Edge.hooks(9) + Edge.seat(0, "fresh", 0, 98, 1), 0);
    }
}
