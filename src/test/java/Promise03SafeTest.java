import java.nio.charset.StandardCharsets;
import java.util.function.Supplier;

/** Promise 3: safe, what it takes and what it begins anew; its text's bounds are Promise03TextTest's. */
public final class Promise03SafeTest {
    private static final String SMALL = Edge.SAFE + Edge.hooks(0) + Edge.seat(0, "cold", 0, 1, 0);

    public static void main(String[] args) {
        howManySenators();
        firstBytesAlone();
        tapeIsEmptyThen();
        numbersOutOfTheTape();
        noBytes();
        allOfAFullTape();
        faultLeavesTheSafe();
        beginsAnew();
        nothingOfTheOldText();
        asToANewObject();
        Due.end();
    }

    private static SafeSenate fed(String text) {
        SafeSenate x = new SafeSenate();
        Due.feedBytes(x, text.getBytes(StandardCharsets.ISO_8859_1));
        return x;
    }

    private static void howManySenators() {
        SafeSenate x = new SafeSenate();
        Edge.granted("one", x, Due.tell(x, SMALL), 1);
        Edge.granted("six", x, Due.tell(x, Edge.FULL), 6);
    }

    private static void firstBytesAlone() {
        SafeSenate x = fed(SMALL + "99 !");
        Edge.granted("a WHOLE goes on behind n", x, x.safe(SMALL.length()), 1);
        Due.is("votes", x.senator(0, 3), 0);
        SafeSenate y = fed(SMALL);
        Due.refused("a byte fewer ends ahead of the WHOLE", y, y.safe(SMALL.length() - 1), 4);
        Due.is("its place", y.where(), SMALL.length() - 1);
        SafeSenate z = fed(SMALL + ";doubted pab");
        Edge.granted("a WORD goes on behind n", z, z.safe(SMALL.length() + 11), 1);
    }

    private static void tapeIsEmptyThen() {
        SafeSenate x = fed(SMALL + " ".repeat(40));
        x.safe(SMALL.length());
        Due.is("what stood behind n is gone too", x.size(15), 0);
        Due.refused("nothing is left to take", x, x.safe(1), 2);
        SafeSenate y = fed(SMALL);
        y.safe(3);
        Due.is("behind a FAULT", y.size(15), 0);
    }

    private static void numbersOutOfTheTape() {
        Supplier<SafeSenate> made = () -> fed(SMALL);
        int length = made.get().size(15);
        Edge.refused("one more than it has", made, x -> x.safe(length + 1), 2);
        Edge.refused("one more than it has, with a SAFE", Edge::used, x -> x.safe(x.size(15) + 1), 2);
        for (int n : Edge.WILD) {
            Edge.refused("safe " + n, made, x -> x.safe(n), 2);
            Edge.refused("safe " + n + " on an empty tape", SafeSenate::new, x -> x.safe(n), 2);
        }
        SafeSenate x = made.get();
        x.safe(length + 1);
        Edge.granted("THE TAPE stays: it is heard later", x, x.safe(length), 1);
        Edge.refused("901 of a full one", () -> fed(" ".repeat(900)), y -> y.safe(901), 2);
    }

    private static void noBytes() {
        SafeSenate x = new SafeSenate();
        Due.refused("0 of none", x, x.safe(0), 4);
        Due.is("FORM", x.fault(), 1);
        Due.is("at the end", x.where(), 0);
        SafeSenate y = fed(SMALL);
        Due.refused("0 of some", y, y.safe(0), 4);
        Due.is("THE TAPE is empty then", y.size(15), 0);
    }

    private static void allOfAFullTape() {
        SafeSenate x = fed(SMALL + " ".repeat(900 - SMALL.length()));
        Edge.granted("900", x, x.safe(900), 1);
        SafeSenate y = fed(" ".repeat(900 - SMALL.length()) + SMALL);
        Edge.granted("900, blanks ahead", y, y.safe(900), 1);
        SafeSenate z = fed(SMALL + " ".repeat(899 - SMALL.length()) + ";");
        Due.refused("the 900th byte counts", z, z.safe(900), 4);
        Due.is("at the end", z.where(), 900);
    }

    /** The texts tell much ahead of their FAULT, none of which may come through. */
    private static void faultLeavesTheSafe() {
        String[] faulty = {"", "!", Edge.FULL + ";", Edge.FULL + ";went y", "safe quorum 6 heat 9 thunder 100 salt 9",
            "safe quorum 6 heat 9 thunder 100 salt 9;hook z air 9"};
        for (String text : faulty) {
            SafeSenate x = Edge.used();
            x.safe(0);
            Due.refused("faulty: " + text, x, Due.tell(x, text), 4);
            x.safe(0);
            SafeSenate y = Edge.used();
            y.safe(0);
            Due.is("the SAFE stays behind " + text, Edge.trace(x).equals(Edge.trace(y)), true);
        }
        SafeSenate none = new SafeSenate();
        Due.tell(none, Edge.FULL + ";");
        Due.refused("there is no SAFE yet", none, none.good(), 1);
        Due.is("no quorum told", none.size(0), 0);
    }

    private static void beginsAnew() {
        SafeSenate x = Edge.used();
        x.safe(0);
        Due.is("an image more", x.image(), 2);
        Due.tell(x, Edge.TWO);
        SafeSenate y = Due.of(Edge.TWO);
        Due.is("day 0", x.size(11), 0);
        Due.is("SEED 0", x.size(12), 0);
        Due.is("nothing to undo", x.size(13), 0);
        Due.is("no IMAGES", x.size(14), 0);
        Due.refused("undo", x, x.undo(), 6);
        Due.refused("back", x, x.back(0), 1);
        Due.is("the first IMAGE", x.image(), 0);
        y.image();
        Due.is("as a new object's", Edge.trace(x).equals(Edge.trace(y)), true);
    }

    /** Two texts by turns, as one that is held may have been heard into rows that were used before. */
    private static void nothingOfTheOldText() {
        SafeSenate x = Due.of(Edge.FULL);
        int[] sizes = {1, 3, 50, 2, 1, 1, 1, 0, 0, 0, 0, 0, 0, 0, 0, 0};
        for (int i = 0; i < 3; i++) {
            Due.tell(x, SMALL + ";act u day 0");
            for (int what = 0; what < sizes.length; what++) {
                Due.is("size " + what, x.size(what), sizes[what]);
            }
            Due.is("nobody is for it", x.act(0, 1), 0);
            Due.is("it rests on none", x.act(0, 2), 0);
            Due.refused("no second senator", x, x.senator(1, 0), 1);
            Due.refused("no second hook", x, x.hook(1, 0), 1);
            Due.refused("nobody is doubted", x, x.since(), 6);
        }
        Due.is("names are free again", Due.tell(x, SMALL), 1);
    }

    /** Behind any other text, and one more, a text is what it is to a new object. */
    private static void asToANewObject() {
        String few = Edge.SAFE + Edge.hooks(0) + Edge.seat(0, "fresh", 0, 2, 1) + ";act u day 1";
        String kinds = Edge.FULL.replace("fresh", "salted");
        String oneAct = Promise24SinceTest.DOUBT.replace(";act v day 40;act w day 20;for pa u;for pa v;for pa w", ";for pa u");
        String[] texts = {few, few + ";doubted pa;fell u", SMALL, SMALL.replace("quorum 1", "quorum 2"), Edge.TWO,
            Promise24SinceTest.DOUBT + ";went w", oneAct + ";went u"};
        String[] others = {Edge.FULL, kinds, Promise24SinceTest.DOUBT, Edge.FULL.replace("fresh", "cold"), Edge.TWO};
        for (String text : texts) {
            String want = Edge.answers(Due.of(text));
            for (String other : others) {
                SafeSenate x = Due.of(other);
                Edge.answers(x);
                Due.tell(x, text);
                Due.is("behind one: " + other + " then " + text, Edge.answers(x).equals(want), true);
            }
            for (String other : others) {
                SafeSenate x = Due.of(other);
                Due.tell(x, SMALL);
                Due.tell(x, text);
                Due.is("behind two: " + other + " then " + text, Edge.answers(x).equals(want), true);
            }
        }
    }
}
