/** Promise 47: undo. */
public final class Promise47UndoTest {
    public static void main(String[] args) {
        nothing();
        sixteenAreKept();
        theOldestGivesWay();
        eachActAlone();
        whatIsNoAct();
        whatWasRefused();
        actsBehindUndoing();
        daysGoneByToo();
        Due.end();
    }

    private static void nothing() {
        Edge.refused("no ACT", () -> Due.of(Edge.TWO), x -> x.undo() ? 1 : 0, 0, 6);
        SafeSenate x = Due.of(Edge.TWO);
        x.day();
        Due.is("one", x.undo(), true);
        Due.is("no trouble", x.trouble(), 0);
        Due.refused("none is left", x, x.undo(), 6);
    }

    private static void sixteenAreKept() {
        SafeSenate x = Due.of(Edge.TWO);
        for (int acts = 1; acts <= 16; acts++) {
            x.day();
            Due.is("kept", x.size(13), acts);
        }
        for (int left = 15; left >= 0; left--) {
            Due.is("undone", x.undo(), true);
            Due.is("left", x.size(13), left);
            Due.is("day", x.size(11), left);
        }
        Due.refused("all are undone", x, x.undo(), 6);
    }

    private static void theOldestGivesWay() {
        SafeSenate x = Due.of(Edge.TWO);
        Edge.days(x, 17);
        Due.is("16 of 17", x.size(13), 16);
        for (int day = 16; day >= 1; day--) {
            x.undo();
            Due.is("day", x.size(11), day);
        }
        Due.refused("the first can't be undone", x, x.undo(), 6);
        Due.is("day 1 stays", x.size(11), 1);
        Edge.days(x, 98);
        for (int i = 0; i < 16; i++) {
            Due.is("undone", x.undo(), true);
        }
        Due.is("16 of 98", x.size(11), 83);
        Due.refused("no more", x, x.undo(), 6);
    }

    private static void undone(String what, Edge.Call act) {
        SafeSenate x = Edge.used();
        Due.is(what + " is done", act.on(x) != SafeSenate.NONE, true);
        Due.is(what + " is undone", x.undo(), true);
        SafeSenate y = Edge.used();
        Due.is("all is as ahead of " + what, Edge.trace(x).equals(Edge.trace(y)), true);
    }

    private static void eachActAlone() {
        undone("day", x -> x.day());
        undone("move", x -> x.move(0, 0));
        undone("changing over", x -> x.move(0, 1));
        undone("salt", x -> x.salt(0) ? 1 : -1);
    }

    private static void whatIsNoAct() {
        SafeSenate x = Due.of(Edge.TWO);
        x.seed(9);
        x.image();
        x.feed(0, 0, 0, 0, 0);
        x.longest();
        Due.refused("nothing was done", x, x.undo(), 6);
        Due.is("the IMAGE stays", x.size(14), 1);
        x.day();
        x.image();
        x.undo();
        Due.is("IMAGES aren't undone", x.size(14), 2);
        Due.is("nor is THE TAPE", x.size(15), 20);
    }

    private static void whatWasRefused() {
        SafeSenate x = Due.of(Edge.TWO);
        x.move(0, 0);
        x.move(0, 9);
        x.salt(9);
        x.undo();
        Due.is("no ACTS", x.size(13), 0);
    }

    private static void actsBehindUndoing() {
        SafeSenate x = Due.of(Edge.TWO);
        Edge.days(x, 16);
        x.undo();
        x.undo();
        x.move(0, 2);
        x.move(0, 0);
        x.move(0, 2);
        Due.is("16 again", x.size(13), 16);
        for (int i = 0; i < 3; i++) {
            x.undo();
        }
        Due.is("hung as told", x.senator(0, 1), 0);
        Due.is("day 14", x.size(11), 14);
        for (int i = 0; i < 13; i++) {
            Due.is("undone", x.undo(), true);
        }
        Due.is("day 1", x.size(11), 1);
        Due.refused("the first gave way", x, x.undo(), 6);
    }

    /** Who was GOOD on a day that was undone is told anew when it goes by again. */
    private static void daysGoneByToo() {
        SafeSenate x = Due.of("safe quorum 1 heat 2 thunder 100 salt 1" + Edge.hooks(0) + Edge.seat(0, "fresh", 0, 3, 1)
            + ";act u day 1;for pa u");
        Edge.days(x, 2);
        Due.is("he was OFF by thunder", x.going(), 0);
        x.undo();
        x.undo();
        x.salt(0);
        Edge.days(x, 2);
        Due.is("salted he was GOOD", x.going(), 1);
    }
}
