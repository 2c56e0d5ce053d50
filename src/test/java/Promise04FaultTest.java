/** Promise 4: fault, by its seven numbers, and of which text. */
public final class Promise04FaultTest {
    /** For each number a text, the place of its fault at the sign '#'. */
    private static final String[] FAULTY = {"safe quorum 1 #1", Edge.TWO + ";for #z", Edge.TWO + ";hook #a", "safe quorum #7",
        Edge.FULL + ";#hook", "#hook", Edge.TWO + ";senator r cold at #a"};

    public static void main(String[] args) {
        withoutOne();
        eachNumber();
        ofTheLatestText();
        notOfOneRefusedByTwo();
        firstFromTheLeft();
        ofOnePlaceTheLeastNumber();
        Due.end();
    }

    private static void withoutOne() {
        SafeSenate x = new SafeSenate();
        Due.is("new", x.fault(), 0);
        x.safe(1);
        Due.is("refused by 2", x.fault(), 0);
        Due.tell(x, Edge.TWO);
        Due.is("a sound text", x.fault(), 0);
    }

    private static String text(int number) {
        return FAULTY[number - 1].replace("#", "");
    }

    private static void eachNumber() {
        for (int number = 1; number <= 7; number++) {
            Due.faultAt(FAULTY[number - 1], number);
        }
    }

    private static void ofTheLatestText() {
        SafeSenate x = new SafeSenate();
        for (int number = 2; number <= 7; number++) {
            Due.tell(x, text(number));
            Due.is("the latest", x.fault(), number);
            x.good();
            x.feed(0, 0, 0, 0, 0);
            x.undo();
            Due.is("other calls leave it", x.fault(), number);
            x.safe(0);
            Due.is("none at all is FORM", x.fault(), 1);
        }
        Due.tell(x, Edge.TWO);
        Due.is("a sound one is without", x.fault(), 0);
    }

    private static void notOfOneRefusedByTwo() {
        SafeSenate x = new SafeSenate();
        Due.tell(x, text(6));
        x.safe(-1);
        x.safe(1);
        x.safe(901);
        Due.is("stays", x.fault(), 6);
    }

    /** Two faults in each text, by falling and by rising numbers. */
    private static void firstFromTheLeft() {
        Due.faultAt("#hook a air 10 !", 6);
        Due.faultAt("safe quorum #7 heat 10", 4);
        Due.faultAt("safe quorum #7 !", 4);
        Due.faultAt("safe #! quorum 7", 1);
        Due.faultAt(Edge.FULL + ";#hook ha", 5);
        Due.faultAt(Edge.FULL + ";#for hz", 5);
        Due.faultAt(Edge.TWO + ";senator r cold at #a good 0", 7);
        Due.faultAt(Edge.TWO + ";senator #p cold at a", 3);
        Due.faultAt(Edge.TWO + ";for #z z", 2);
        Due.faultAt(Edge.TWO + ";#doubted z", 3);
        Due.faultAt(Edge.TWO + ";rests x #x y", 3);
        Due.faultAt(Edge.SAFE + ";hook a air #10;", 4);
    }

    private static void ofOnePlaceTheLeastNumber() {
        // an unfinished LINE and no senator: FORM and LACKS at the end
        Due.faultAt("safe#", 1);
        Due.faultAt(Edge.SAFE + ";#", 1);
        Due.faultAt(Edge.SAFE + ";hook a#", 1);
        Due.faultAt(Edge.SAFE + ";hook a air 1;senator p cold at a good 9 votes#", 1);
        Due.faultAt(Edge.SAFE + "#", 6);
        Due.faultAt(Edge.SAFE + ";hook a air 1  #", 6);
        // what is no TOKEN can't be out of bounds, nor untold
        Due.faultAt("safe quorum #0000", 1);
        Due.faultAt(Edge.TWO + ";for #zzzzzzzzz", 1);
    }
}
