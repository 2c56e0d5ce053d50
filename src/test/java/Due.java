import java.nio.charset.StandardCharsets;
import java.util.NoSuchElementException;

/** What the tests share: feeding a text, and counting answers that are not as due. */
final class Due {
    static final String BASE = "safe quorum 2 heat 5 thunder 5 salt 5;hook a air 1;hook b air 2;"
        + "senator p fresh at a good 5 votes 1;act x day 1;act y day 2";

    private static int wrong = 0;
    private static int asked = 0;

    private Due() {
    }

    static void is(String what, long got, long want) {
        asked++;
        if (got != want) {
            wrong++;
            System.out.println(what + " answered " + got + ", due is " + want);
        }
    }

    static void is(String what, boolean got, boolean want) {
        is(what, got ? 1 : 0, want ? 1 : 0);
    }

    /** A call that is refused: its answer and its TROUBLE. */
    static void refused(String what, SafeSenate x, long got, long want, int trouble) {
        is(what, got, want);
        is(what + ", then trouble()", x.trouble(), trouble);
    }

    static void refused(String what, SafeSenate x, boolean got, int trouble) {
        refused(what, x, got ? 1 : 0, 0, trouble);
    }

    static void refused(String what, SafeSenate x, long got, int trouble) {
        refused(what, x, got, SafeSenate.NONE, trouble);
    }

    static void ledThrows(SafeSenate x, int i) {
        boolean thrown = false;
        try {
            x.led(i);
        } catch (NoSuchElementException e) {
            thrown = true;
        }
        is("led(" + i + ") throws", thrown, true);
    }

    static int number(byte[] bytes, int at) {
        int number = 0;
        for (int i = at; i < at + 4; i++) {
            number = number << 8 | (i < bytes.length ? bytes[i] & 255 : 32);
        }
        return number;
    }

    static void feedBytes(SafeSenate x, byte[] bytes) {
        for (int at = 0; at < bytes.length; at += 20) {
            x.feed(number(bytes, at), number(bytes, at + 4), number(bytes, at + 8),
                number(bytes, at + 12), number(bytes, at + 16));
        }
    }

    static int tell(SafeSenate x, String text) {
        byte[] bytes = text.getBytes(StandardCharsets.ISO_8859_1);
        feedBytes(x, bytes);
        return x.safe(bytes.length);
    }

    static SafeSenate of(String text) {
        SafeSenate x = new SafeSenate();
        if (tell(x, text) < 0) {
            wrong++;
            System.out.println("fault " + x.fault() + " at " + x.where() + " in: " + text);
        }
        return x;
    }

    static void fault(String text, int number, int place) {
        SafeSenate x = new SafeSenate();
        refused(text, x, tell(x, text), 4);
        is("fault of " + text, x.fault(), number);
        is("place in " + text, x.where(), place);
        is("tape empty behind " + text, x.size(15), 0);
        x.good();
        is("place gone behind another refusal", x.where(), -1);
        is("fault stays", x.fault(), number);
    }

    /** The fault stands at the sign '#', which is taken out. */
    static void faultAt(String text, int number) {
        fault(text.replace("#", ""), number, text.indexOf('#'));
    }

    static void end() {
        System.out.println(asked + " answers, " + wrong + " of them not as due");
        if (wrong != 0 || asked == 0) {
            System.exit(1);
        }
    }
}
