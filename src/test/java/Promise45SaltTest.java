/** Promise 45: salt. */
public final class Promise45SaltTest {
    public static void main(String[] args) {
        noneSuch();
        heIsSalted();
        heIsOff();
        noSalt();
        notSoAheadOfNoSalt();
        oneLess();
        losesAsASaltedOne();
        Due.end();
    }

    private static void refused(String what, java.util.function.Supplier<SafeSenate> made, int s, int trouble) {
        Edge.refused(what, made, x -> x.salt(s) ? 1 : 0, 0, trouble);
    }

    private static void noneSuch() {
        refused("behind the last", Edge::used, 2, 1);
        refused("behind six", () -> Due.of(Edge.FULL), 6, 1);
        for (int wild : Edge.WILD) {
            refused("senator " + wild, Edge::used, wild, 1);
        }
    }

    private static void heIsSalted() {
        refused("by an ACT", Edge::used, 1, 5);
        refused("as told", () -> Edge.one("salted", 9, 1), 0, 5);
    }

    private static SafeSenate off() {
        SafeSenate x = Edge.one("fresh", 2, 1);
        Edge.days(x, 2);
        return x;
    }

    private static void heIsOff() {
        refused("OFF", Promise45SaltTest::off, 0, 5);
        SafeSenate x = Edge.one("fresh", 2, 1);
        x.day();
        Due.is("on his last day", x.salt(0), true);
        Due.is("no trouble", x.trouble(), 0);
    }

    private static void noSalt() {
        refused("none told", () -> Due.of(Edge.TWO.replace("salt 2", "salt 0")), 0, 6);
        SafeSenate x = Due.of(Edge.TWO.replace("salt 2", "salt 1"));
        Due.is("the last", x.salt(0), true);
        Due.refused("none left", x, x.salt(1), 6);
        Due.is("he isn't salted", x.senator(1, 0), 2);
    }

    private static void notSoAheadOfNoSalt() {
        refused("salted", () -> Edge.one("salted", 9, 1), 0, 5);
        SafeSenate x = Due.of(Edge.TWO.replace("salt 2", "salt 1"));
        x.salt(0);
        Due.refused("salted, and no salt", x, x.salt(0), 5);
        Edge.days(x, 20);
        Due.refused("OFF, and no salt", x, x.salt(1), 5);
        Due.refused("none such, and no salt", x, x.salt(2), 1);
    }

    private static void oneLess() {
        SafeSenate x = Due.of(Edge.FULL.replace("salt 2", "salt 9"));
        for (int s = 0; s < 6; s++) {
            Due.is("salt " + s, x.salt(s), true);
            Due.is("no trouble", x.trouble(), 0);
            Due.is("left", x.size(3), 8 - s);
            Due.is("kind", x.senator(s, 0), 1);
            Due.is("ACTS", x.size(13), s + 1);
        }
    }

    private static void losesAsASaltedOne() {
        SafeSenate x = Edge.one("fresh", 20, 9);
        x.salt(0);
        Due.is("the days he has stay", x.senator(0, 2), 20);
        x.day();
        x.day();
        Due.is("1 by two DAYS", x.senator(0, 2), 19);
    }
}
