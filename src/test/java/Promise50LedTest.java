/** Promise 50: led. */
public final class Promise50LedTest {
    public static void main(String[] args) {
        noSafe();
        nobodyIsOff();
        oneByOne();
        byNumbers();
        leavesTrouble();
        Due.end();
    }

    private static void led(SafeSenate x, int... off) {
        for (int i = 0; i < off.length; i++) {
            Due.is("the " + i, Edge.led(x, i), off[i]);
        }
        Due.ledThrows(x, off.length);
        for (int wild : Edge.WILD) {
            Due.ledThrows(x, wild);
        }
    }

    private static void noSafe() {
        led(new SafeSenate());
    }

    private static void nobodyIsOff() {
        led(Due.of(Edge.FULL));
        led(Edge.one("fresh", 1, 1));
    }

    private static void oneByOne() {
        SafeSenate x = Promise33PowerTest.votes(1, 1, 1, 1, 1, 1);
        int[] off = {};
        for (int day = 1; day <= 6; day++) {
            x.day();
            off = java.util.Arrays.copyOf(off, day);
            off[day - 1] = day - 1;
            led(x, off);
        }
    }

    private static void byNumbers() {
        SafeSenate x = Due.of("safe quorum 1 heat 1 thunder 0 salt 0" + Edge.hooks(0, 0, 0) + Edge.seat(0, "fresh", 0, 2, 1)
            + Edge.seat(1, "fresh", 1, 9, 1) + Edge.seat(2, "fresh", 2, 1, 1));
        x.day();
        led(x, 2);
        x.day();
        led(x, 0, 2);
    }

    private static void leavesTrouble() {
        SafeSenate x = Edge.one("fresh", 1, 1);
        x.senator(9, 0);
        Due.ledThrows(x, 0);
        Due.is("thrown", x.trouble(), 1);
        x.day();
        x.senator(9, 0);
        Due.is("led", Edge.led(x, 0), 0);
        Due.is("answered", x.trouble(), 1);
    }
}
