/** Promise 3: the bounds of each WHOLE, how many LINES of each sort there may be, what may be told once alone. */
public final class Promise03LinesTest {
    private static final String TOLD = Edge.SAFE + ";hook a air 1;hook b air 1;senator p cold at a good 9 votes 1;"
        + "act x day 1;act y day 2;act z day 3";

    public static void main(String[] args) {
        safeBounds();
        lineBounds();
        kinds();
        rooms();
        fullIsTaken();
        eachTwoForOnce();
        eachTwoRestOnceInThatOrder();
        doubtedOnce();
        outcomesOnceOfBoth();
        aHookAtWhichNobodyHangs();
        safeAheadOfAllOthers();
        Due.end();
    }

    private static SafeSenate sound(String text) {
        SafeSenate x = new SafeSenate();
        Due.is(text + " is sound", Due.tell(x, text) > 0, true);
        return x;
    }

    /** The WHOLE stands at the sign '#': both ends are taken, a step beyond either is not. */
    private static void bounds(String text, int least, int most) {
        sound(text.replace("#", "" + least));
        sound(text.replace("#", "" + most));
        int at = text.indexOf('#');
        if (least > 0) {
            Due.fault(text.replace("#", "" + (least - 1)), 4, at);
        }
        Due.fault(text.replace("#", "" + (most + 1)), 4, at);
        Due.fault(text.replace("#", "999"), 4, at);
    }

    private static void safeBounds() {
        String rest = ";hook a air 1;senator p cold at a good 9 votes 1";
        bounds("safe quorum # heat 3 thunder 50 salt 2" + rest, 1, 6);
        bounds("safe quorum 1 heat # thunder 50 salt 2" + rest, 1, 9);
        bounds("safe quorum 1 heat 3 thunder # salt 2" + rest, 0, 100);
        bounds("safe quorum 1 heat 3 thunder 50 salt #" + rest, 0, 9);
        SafeSenate least = sound("safe quorum 1 heat 1 thunder 0 salt 0" + rest);
        SafeSenate most = sound("safe quorum 6 heat 9 thunder 100 salt 9" + rest);
        int[] atLeast = {1, 1, 0, 0};
        int[] atMost = {6, 9, 100, 9};
        for (int what = 0; what < 4; what++) {
            Due.is("least " + what, least.size(what), atLeast[what]);
            Due.is("most " + what, most.size(what), atMost[what]);
        }
    }

    private static void lineBounds() {
        bounds(Edge.SAFE + ";hook a air #;senator p cold at a good 9 votes 1", 0, 9);
        bounds(Edge.SAFE + ";hook a air 1;senator p cold at a good # votes 1", 1, 99);
        bounds(Edge.SAFE + ";hook a air 1;senator p cold at a good 9 votes #", 0, 9);
        bounds(TOLD + ";act w day #", 0, 40);
    }

    private static void kinds() {
        String[] kinds = {"fresh", "salted", "cold"};
        for (int kind = 0; kind < 3; kind++) {
            Due.is(kinds[kind], sound(TOLD.replace("cold", kinds[kind])).senator(0, 0), kind);
        }
        Due.faultAt(TOLD + ";senator q #raw at b", 1);
        Due.faultAt(TOLD + ";senator q #at b", 1);
        Due.faultAt(TOLD + ";senator q #doubted at b", 1);
        Due.faultAt(TOLD + ";senator q #0 at b", 1);
    }

    /** One LINE more than there is room for is a fault at its first WORD, whatever stands behind that. */
    private static void rooms() {
        String[] heads = {"hook", "senator", "act", "for", "rests"};
        String[] behind = {"", " ", " new", " pa", " u v", ";", " !"};
        for (String head : heads) {
            for (String more : behind) {
                Due.faultAt(Edge.FULL + ";#" + head + more, 5);
            }
        }
        Due.faultAt(Edge.SAFE + Edge.hooks(0, 0, 0, 0, 0, 0) + ";#hook hg air 0", 5);
        Due.faultAt(Edge.SAFE + Edge.hooks(0, 0, 0, 0, 0, 0) + Edge.seats("cold", 1, 0, 0, 1, 2, 3, 4, 5)
            + ";#senator pg cold at ha good 1 votes 0", 5);
        Due.faultAt(TOLD + ";act v day 0;act w day 0;#act u day 0", 5);
    }

    private static void fullIsTaken() {
        int[] sizes = {1, 3, 50, 2, 6, 6, 5, 15, 6, 1, 5, 0, 0, 0, 0, 0};
        SafeSenate x = sound(Edge.FULL);
        for (int what = 0; what < sizes.length; what++) {
            Due.is("full size " + what, x.size(what), sizes[what]);
        }
        SafeSenate least = sound("safe quorum 1 heat 1 thunder 0 salt 0;hook a air 0;senator p cold at a good 1 votes 0");
        int[] few = {1, 1, 0, 0, 1, 1, 0, 0, 0, 0, 0};
        for (int what = 0; what < few.length; what++) {
            Due.is("least size " + what, least.size(what), few[what]);
        }
    }

    private static void eachTwoForOnce() {
        String two = TOLD + ";senator q cold at b good 9 votes 1;for p x";
        sound(two + ";for p y;for q x;for q y");
        Due.faultAt(two + ";for p #x", 3);
        Due.faultAt(two + ";for p y;for q x;for p #x", 3);
        Due.is("told ones alone", sound(two + ";for q y").size(7), 2);
    }

    private static void eachTwoRestOnceInThatOrder() {
        sound(TOLD + ";rests x y;rests y x;rests x z;rests z x;rests y z;rests z y");
        Due.faultAt(TOLD + ";rests x y;rests y x;rests x #y", 3);
        Due.faultAt(TOLD + ";rests x y;rests y x;rests y #x", 3);
        Due.faultAt(TOLD + ";rests x #x", 3);
        Due.faultAt(TOLD + ";rests x z;rests z #z", 3);
        Due.is("the first rests on the second", sound(TOLD + ";rests x z").act(0, 2), 4);
        Due.is("the second on none", sound(TOLD + ";rests x z").act(2, 2), 0);
    }

    private static void doubtedOnce() {
        String two = TOLD + ";senator q cold at b good 9 votes 1;doubted p";
        sound(two);
        Due.faultAt(two + ";#doubted p", 3);
        Due.faultAt(two + ";#doubted q", 3);
        Due.faultAt(two + ";#doubted", 3);
        Due.faultAt(two + ";#doubted x", 3);
    }

    private static void outcomesOnceOfBoth() {
        sound(TOLD + ";went x;fell y;went z");
        String[] both = {"went", "fell"};
        for (String first : both) {
            for (String second : both) {
                Due.faultAt(TOLD + ";" + first + " x;" + second + " #x", 3);
                Due.faultAt(TOLD + ";" + first + " z;fell y;" + second + " #z", 3);
                Due.is("two told", sound(TOLD + ";" + first + " x;" + second + " z").size(10), 2);
            }
        }
    }

    private static void aHookAtWhichNobodyHangs() {
        sound(TOLD + ";senator q cold at b good 9 votes 1");
        Due.faultAt(TOLD + ";senator q cold at #a good 9 votes 1", 7);
        Due.faultAt(TOLD + ";senator q cold at b good 9 votes 1;senator r cold at #b", 7);
        Due.faultAt(TOLD + ";senator q cold at #a", 7);
    }

    private static void safeAheadOfAllOthers() {
        String[] heads = {"hook", "senator", "act", "for", "rests", "doubted", "went", "fell"};
        for (String head : heads) {
            Due.faultAt("#" + head, 6);
            Due.faultAt("  #" + head + " a air 1;" + TOLD, 6);
        }
        Due.faultAt(TOLD + ";#safe quorum 1 heat 3 thunder 50 salt 2", 3);
        Due.faultAt(Edge.SAFE + ";#safe", 3);
    }
}
