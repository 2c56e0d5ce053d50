/** Promise 51: size. */
public final class Promise51SizeTest {
    public static void main(String[] args) {
        noneForOthers();
        zeroForWhatThereIsnt();
        leastAndMost();
        asOfNow();
        leavesTrouble();
        Due.end();
    }

    private static void sizes(String what, SafeSenate x, int... want) {
        for (int i = 0; i < want.length; i++) {
            Due.is(what + ", size " + i, x.size(i), want[i]);
        }
    }

    private static void noneForOthers() {
        SafeSenate[] made = {new SafeSenate(), Edge.used()};
        for (SafeSenate x : made) {
            Due.is("size 15 is not one of them", x.size(15) >= 0, true);
            Due.is("size 16", x.size(16), -1);
            for (int wild : Edge.WILD) {
                Due.is("size " + wild, x.size(wild), -1);
            }
        }
    }

    private static void zeroForWhatThereIsnt() {
        SafeSenate x = new SafeSenate();
        sizes("no SAFE", x, 0, 0, 0, 0, 0, 0, 0, 0, 0, 0, 0, 0, 0, 0, 0, 0);
        x.feed(0, 0, 0, 0, 0);
        sizes("no SAFE, but a tape", x, 0, 0, 0, 0, 0, 0, 0, 0, 0, 0, 0, 0, 0, 0, 0, 20);
        Due.tell(x, Edge.FULL + ";");
        sizes("no SAFE behind a FAULT", x, 0, 0, 0, 0, 0, 0, 0, 0, 0, 0, 0, 0, 0, 0, 0, 0);
    }

    private static void leastAndMost() {
        sizes("least", Due.of("safe quorum 1 heat 1 thunder 0 salt 0" + Edge.hooks(0) + Edge.seat(0, "cold", 0, 1, 0)),
            1, 1, 0, 0, 1, 1, 0, 0, 0, 0, 0, 0, 0, 0, 0, 0);
        SafeSenate x = Due.of(Edge.FULL.replace(Edge.SAFE, "safe quorum 6 heat 9 thunder 100 salt 9"));
        Edge.days(x, 99);
        x.seed(65536);
        for (int i = 0; i < 3; i++) {
            x.image();
        }
        for (int i = 0; i < 46; i++) {
            x.feed(0, 0, 0, 0, 0);
        }
        sizes("most", x, 6, 9, 100, 9, 6, 6, 5, 15, 6, 1, 5, 99, 65536, 16, 3, 900);
    }

    private static void asOfNow() {
        sizes("used", Edge.used(), 1, 3, 50, 1, 3, 2, 2, 2, 1, 1, 1, 1, 77, 3, 2, 60);
    }

    private static void leavesTrouble() {
        SafeSenate x = Edge.used();
        x.senator(9, 0);
        for (int what = -1; what <= 16; what++) {
            x.size(what);
            Due.is("TROUBLE behind size " + what, x.trouble(), 1);
        }
    }
}
