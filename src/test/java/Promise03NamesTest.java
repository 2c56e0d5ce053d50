/** Promise 3: which WORDS are NAMES, each told once, ahead of its use, and of one sort. */
public final class Promise03NamesTest {
    private static final String[] NO_NAMES = {"safe", "hook", "senator", "act", "for", "rests", "doubted", "went", "fell"};
    private static final String[] NAMES = {"quorum", "heat", "thunder", "salt", "air", "at", "good", "votes", "day", "fresh",
        "salted", "cold", "kind", "name", "saf", "safes", "hooks", "acts", "fore", "rest"};
    private static final String TOLD = Edge.SAFE + ";hook a air 1;hook b air 1;senator p cold at a good 9 votes 1;act x day 1";
    private static final String[] TELLING = {";hook #", ";senator #", ";act #"};
    private static final String[] USING = {";senator new cold at #", ";for #", ";for p #", ";rests #", ";rests x #",
        ";doubted #", ";went #", ";fell #"};
    /** The sort of what USING wants, by the TOLD one of that sort. */
    private static final String[] WANTED = {"a", "p", "x", "x", "x", "p", "x", "x"};

    public static void main(String[] args) {
        nineWordsAreNoNames();
        allOthersAre();
        toldOnce();
        toldAheadOfItsUse();
        ofTheSortThatMustStandThere();
        unlikeByOneLetter();
        asManyAsThereIsRoomFor();
        Due.end();
    }

    private static void nineWordsAreNoNames() {
        for (String word : NO_NAMES) {
            for (String line : TELLING) {
                Due.faultAt(TOLD + line + word, 1);
            }
            for (String line : USING) {
                Due.faultAt(TOLD + line + word, 1);
            }
        }
    }

    private static void allOthersAre() {
        for (String word : NAMES) {
            SafeSenate x = Due.of(TOLD + ";hook " + word + " air 7;senator q cold at " + word + " good 9 votes 1");
            Due.is("a hook's NAME " + word, x.senator(1, 1), 2);
            SafeSenate y = Due.of(TOLD + ";senator " + word + " fresh at b good 9 votes 1;for " + word + " x;doubted " + word);
            Due.is("a senator's NAME " + word, y.senator(1, 4), 1);
            SafeSenate z = Due.of(TOLD + ";act " + word + " day 2;for p " + word + ";rests " + word + " x;went " + word);
            Due.is("an act's NAME " + word, z.act(1, 1), 1);
        }
    }

    private static void toldOnce() {
        String[] told = {"a", "b", "p", "x"};
        for (String name : told) {
            for (String line : TELLING) {
                Due.faultAt(TOLD + line + name, 3);
            }
        }
        Due.faultAt(TOLD + ";senator q cold at b good 9 votes 1;act #q", 3);
    }

    private static void toldAheadOfItsUse() {
        for (String line : USING) {
            Due.faultAt(TOLD + line + "z", 2);
            Due.faultAt(TOLD + line + "z;hook z air 1;act y day 1", 2);
        }
        Due.faultAt(TOLD + ";senator q cold at #q", 2);
    }

    private static void ofTheSortThatMustStandThere() {
        String[] told = {"a", "p", "x"};
        for (int i = 0; i < USING.length; i++) {
            for (String name : told) {
                if (!name.equals(WANTED[i])) {
                    Due.faultAt(TOLD + USING[i] + name, 2);
                }
            }
        }
    }

    private static void unlikeByOneLetter() {
        SafeSenate x = Due.of(TOLD + ";hook aa air 2;hook aaaaaaaa air 3;hook aaaaaaab air 4;hook baaaaaaa air 5;"
            + "senator q cold at aaaaaaab good 1 votes 1;senator r cold at aa good 1 votes 1;"
            + "senator s cold at baaaaaaa good 1 votes 1;senator t cold at aaaaaaaa good 1 votes 1");
        int[] hooks = {0, 4, 2, 5, 3};
        for (int s = 0; s < hooks.length; s++) {
            Due.is("hook of " + s, x.senator(s, 1), hooks[s]);
        }
        Due.faultAt(TOLD + ";hook aaaaaaaa air 3;senator q cold at #aaaaaaa", 2);
    }

    private static void asManyAsThereIsRoomFor() {
        SafeSenate x = Due.of(Edge.FULL);
        Due.is("the last hook's air", x.hook(5, 0), 9);
        Due.is("the last senator's hook", x.senator(5, 1), 5);
        Due.is("the last act's day", x.act(4, 0), 40);
        Due.is("who is for it", x.act(4, 1), 48);
    }
}
