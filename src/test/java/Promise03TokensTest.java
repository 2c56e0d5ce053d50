/** Promise 3: of which TOKENS a text is made, which bytes begin none, how long WORDS and WHOLES may be. */
public final class Promise03TokensTest {
    private static final String SMALL = Edge.SAFE + Edge.hooks(0) + Edge.seat(0, "cold", 0, 1, 0);

    public static void main(String[] args) {
        bytesBehindAll();
        bytesAheadOfAll();
        blanksPartTokens();
        blanksMeanNothingElse();
        wordsOfOneToEightLetters();
        wholesOfOneToThreeDigits();
        semicolonsStandBetweenLines();
        wordsUnlikeByALetter();
        wordsThatBeginNoLine();
        spelling();
        asManyTokensAsBytes();
        Due.end();
    }

    private static void sound(String text) {
        SafeSenate x = new SafeSenate();
        Edge.granted(text, x, Due.tell(x, text), 1);
    }

    private static boolean isDigit(int b) {
        return b >= '0' && b <= '9';
    }

    private static void bytesBehindAll() {
        for (int b = 0; b < 256; b++) {
            String text = SMALL + (char) b;
            if (b == ' ' || isDigit(b)) {
                sound(text);
            } else {
                // behind a ; another LINE must stand, so the end is the fault there
                Due.fault(text, 1, b == ';' ? SMALL.length() + 1 : SMALL.length());
            }
        }
    }

    private static void bytesAheadOfAll() {
        for (int b = 0; b < 256; b++) {
            String text = (char) b + SMALL;
            if (b == ' ') {
                sound(text);
            } else {
                Due.fault(text, 1, 0);
            }
            if (b != ' ' && b != '#') {
                Due.faultAt("safe #" + (char) b, 1);
            }
        }
    }

    private static void blanksPartTokens() {
        Due.faultAt("#sa fe", 1);
        Due.faultAt("safe #quor um 1", 1);
        Due.faultAt("safe quorum 1 #0", 1);
        Due.faultAt("#safequorum 1", 1);
        Due.faultAt(SMALL + ";hook hbair #1", 1);
        sound(SMALL.replace(" 1 ", "1").replace(" 3 ", "3").replace(" 50 ", "50"));
        sound(SMALL.replace(";", "; ").replace(" 0", "0"));
    }

    private static void blanksMeanNothingElse() {
        sound("   " + SMALL.replace(" ", "   ").replace(";", "   ;   ") + "   ");
        Due.fault(" ".repeat(7), 1, 7);
        Due.fault("   safe   ", 1, 10);
    }

    private static void wordsOfOneToEightLetters() {
        String[] names = {"a", "z", "az", "za", "aaaaaaaa", "zzzzzzzz", "abcdefgh"};
        for (String name : names) {
            sound(Edge.SAFE + ";hook " + name + " air 0;senator p cold at " + name + " good 1 votes 0");
        }
        Due.faultAt(Edge.SAFE + ";hook #aaaaaaaaa air 0", 1);
        Due.faultAt(Edge.SAFE + ";hook #zzzzzzzzzzzzzzzzzzzz", 1);
        Due.faultAt(SMALL + ";doubted #paaaaaaaa", 1);
        Due.faultAt(SMALL + ";#doubtedpa pa", 1);
        Due.faultAt(Edge.SAFE + ";hook #A air 0", 1);
        Due.faultAt(Edge.SAFE + ";hook #1 air 0", 1);
        Due.faultAt(Edge.SAFE + ";hook a#B air 0", 1);
        Due.faultAt(Edge.SAFE + ";hook a#1 air 0", 1);
        Due.faultAt(Edge.SAFE + ";hook a#` air 0", 1);
        Due.faultAt(Edge.SAFE + ";hook a#{ air 0", 1);
    }

    private static void wholesOfOneToThreeDigits() {
        String[] wholes = {"1", "01", "001"};
        for (String whole : wholes) {
            sound(SMALL.replace("quorum 1", "quorum " + whole));
        }
        Due.faultAt("safe quorum #0001 heat 3", 1);
        Due.faultAt("safe quorum #1000 heat 3", 1);
        Due.faultAt("safe quorum #9999999999999999999999 heat 3", 1);
        Due.faultAt("safe quorum 1#/ heat 3", 1);
        Due.faultAt("safe quorum 1#: heat 3", 1);
        Due.faultAt("safe quorum #-1 heat 3", 1);
        Due.faultAt("safe quorum 1#.0 heat 3", 1);
        Due.faultAt("safe quorum #one heat 3", 1);
        Due.fault(SMALL + "000", 1, SMALL.length() - 1);
    }

    private static void semicolonsStandBetweenLines() {
        Due.faultAt("#;" + SMALL, 1);
        Due.faultAt(SMALL + ";#", 1);
        Due.faultAt(SMALL + ";   #", 1);
        Due.faultAt(SMALL + ";#;doubted pa", 1);
        Due.faultAt(SMALL + " #doubted pa", 1);
        Due.faultAt("safe#;quorum 1", 1);
        sound(SMALL + ";doubted pa");
    }

    private static void wordsUnlikeByALetter() {
        for (char one = 'a'; one <= 'z'; one++) {
            for (char other = (char) (one + 1); other <= 'z'; other++) {
                sound(Edge.SAFE + ";hook m" + one + "m air 0;hook m" + other + "m air 0;hook " + one + "mmmmmmm air 0;hook "
                    + other + "mmmmmmm air 0;senator p cold at m" + other + "m good 1 votes 0");
            }
        }
    }

    private static void wordsThatBeginNoLine() {
        String[] words = {"quorum", "heat", "thunder", "salt", "air", "at", "good", "votes", "day", "fresh", "salted", "cold", "pa"};
        for (String word : words) {
            Due.faultAt("#" + word, 1);
            Due.faultAt(SMALL + ";#" + word + " pa", 1);
        }
    }

    /** A keyword with any one letter changed is none. */
    private static void spelling() {
        String[] texts = {"#safe quorum", "safe #quorum 2", "safe quorum 2 #heat 5", "safe quorum 2 heat 5 #thunder 5",
            "safe quorum 2 heat 5 thunder 5 #salt 5", Edge.SAFE + ";#hook b", Edge.SAFE + ";hook b #air 1", SMALL + ";#senator q",
            SMALL + ";hook b air 1;senator q #fresh at b", SMALL + ";hook b air 1;senator q #salted at b",
            SMALL + ";hook b air 1;senator q #cold at b", SMALL + ";hook b air 1;senator q cold #at b",
            SMALL + ";hook b air 1;senator q cold at b #good 5", SMALL + ";hook b air 1;senator q cold at b good 5 #votes 1",
            SMALL + ";#act x", SMALL + ";act x #day 1", Edge.TWO + ";#for p x", Edge.TWO + ";#rests x y",
            Edge.TWO + ";#doubted p", Edge.TWO + ";#went x", Edge.TWO + ";#fell x"};
        for (String text : texts) {
            int at = text.indexOf('#');
            for (int i = at + 1; i < text.length() && text.charAt(i) != ' '; i++) {
                Due.faultAt(text.substring(0, i) + 'j' + text.substring(i + 1), 1);
            }
        }
    }

    /** A byte each, up to the last place of a full tape. */
    private static void asManyTokensAsBytes() {
        Due.fault(";".repeat(900), 1, 0);
        Due.fault("a1".repeat(450), 1, 0);
        String mixed = SMALL + ";hook b";
        Due.fault(mixed + ";".repeat(900 - mixed.length()), 1, mixed.length());
    }
}
