/** Promise 2: feed. */
public final class Promise02FeedTest {
    private static final int BLANKS = 0x20202020;

    public static void main(String[] args) {
        howManyItHas();
        noneComesBeyond900();
        highestByteFirst();
        numbersFromTheLeft();
        behindWhatIsThere();
        beginsAnewBehindSafe();
        leavesTrouble();
        Due.end();
    }

    private static SafeSenate fed(int times) {
        SafeSenate x = new SafeSenate();
        for (int i = 0; i < times; i++) {
            x.feed(BLANKS, BLANKS, BLANKS, BLANKS, BLANKS);
        }
        return x;
    }

    private static void howManyItHas() {
        SafeSenate x = new SafeSenate();
        for (int i = 1; i <= 45; i++) {
            Due.is("feed " + i, x.feed(BLANKS, BLANKS, BLANKS, BLANKS, BLANKS), 20 * i);
            Due.is("size behind feed " + i, x.size(15), 20 * i);
        }
    }

    private static void noneComesBeyond900() {
        SafeSenate x = fed(44);
        Due.is("the last that has room", x.feed(BLANKS, BLANKS, BLANKS, BLANKS, BLANKS), 900);
        for (int i = 0; i < 3; i++) {
            Due.is("the first that has none", x.feed(0, 0, 0, 0, 0), -1);
            Due.is("none came", x.size(15), 900);
        }
        // had its bytes come over others, a 0 would be met ahead of the end
        x.safe(900);
        Due.is("the bytes stay as they were", x.where(), 900);
    }

    /** Each of a number's four bytes in turn is the bad one. */
    private static void highestByteFirst() {
        int[] numbers = {0x21202020, 0x20212020, 0x20202120, 0x20202021};
        for (int i = 0; i < 4; i++) {
            SafeSenate x = new SafeSenate();
            x.feed(numbers[i], BLANKS, BLANKS, BLANKS, BLANKS);
            x.safe(20);
            Due.is("byte " + i, x.where(), i);
        }
        SafeSenate negative = new SafeSenate();
        negative.feed(BLANKS, 0xe1202020, BLANKS, BLANKS, BLANKS);
        negative.safe(20);
        Due.is("a byte above 127 is no letter", negative.where(), 4);
    }

    private static void numbersFromTheLeft() {
        for (int i = 0; i < 5; i++) {
            int[] n = {BLANKS, BLANKS, BLANKS, BLANKS, BLANKS};
            n[i] = 0x20202021;
            SafeSenate x = new SafeSenate();
            x.feed(n[0], n[1], n[2], n[3], n[4]);
            x.safe(20);
            Due.is("number " + i, x.where(), 4 * i + 3);
        }
    }

    private static void behindWhatIsThere() {
        SafeSenate x = fed(3);
        x.feed(0x21202020, BLANKS, BLANKS, BLANKS, BLANKS);
        x.feed(0x21202020, BLANKS, BLANKS, BLANKS, BLANKS);
        x.safe(100);
        Due.is("the fourth twenty", x.where(), 60);
    }

    private static void beginsAnewBehindSafe() {
        SafeSenate x = fed(45);
        x.safe(900);
        Due.is("behind a FAULT", x.feed(0, 0, 0, 0, 0), 20);
        x.safe(21);
        Due.is("behind one refused by 2", x.feed(0, 0, 0, 0, 0), 40);
        SafeSenate y = Due.of(Edge.TWO);
        Due.is("behind a sound text", y.feed(0, 0, 0, 0, 0), 20);
    }

    /** No number is told for feed, so it isn't one of the calls that TROUBLE is of. */
    private static void leavesTrouble() {
        SafeSenate x = fed(44);
        x.good();
        x.feed(0, 0, 0, 0, 0);
        Due.is("TROUBLE behind one that came", x.trouble(), 1);
        Due.is("full", x.feed(0, 0, 0, 0, 0), -1);
        Due.is("TROUBLE behind one that didn't", x.trouble(), 1);
        x.safe(0);
        x.feed(0, 0, 0, 0, 0);
        Due.is("the FAULT's place", x.where(), 0);
    }
}
