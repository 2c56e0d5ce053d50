/** Promises 1 to 5: a new object, feed, safe, fault, where. */
public final class TextTest {
    private static final String SAFE = "safe quorum 2 heat 5 thunder 5 salt 5";
    private static final String ONE = SAFE + ";hook a air 1;senator p fresh at a good 5 votes 1";

    public static void main(String[] args) {
        newObject();
        feeding();
        soundTexts();
        numbers();
        faults();
        bounds();
        rooms();
        order();
        wholeTape();
        stays();
        Due.end();
    }

    private static void newObject() {
        SafeSenate x = new SafeSenate();
        for (int what = 0; what <= 15; what++) {
            Due.is("new size " + what, x.size(what), 0);
        }
        Due.is("new trouble", x.trouble(), 0);
        Due.is("new fault", x.fault(), 0);
        Due.is("new where", x.where(), -1);
        Due.refused("new good", x, x.good(), 1);
        Due.is("NONE", SafeSenate.NONE, -1);
    }

    private static void feeding() {
        SafeSenate x = new SafeSenate();
        for (int i = 1; i <= 45; i++) {
            Due.is("feed " + i, x.feed(0, 0, 0, 0, 0), 20 * i);
        }
        x.good();
        Due.is("feed 46", x.feed(0, 0, 0, 0, 0), -1);
        Due.is("feed tells no trouble", x.trouble(), 1);
        Due.is("nothing came", x.size(15), 900);
        Due.refused("901", x, x.safe(901), 2);
        Due.is("tape stays", x.size(15), 900);
        Due.refused("zeros", x, x.safe(900), 4);
        Due.is("tape empty", x.size(15), 0);
        Due.is("highest byte first", Due.number(new byte[] {1, 2, 3, 4}, 0), 0x01020304);
        // "saf!" tells which byte of a number comes first
        x.feed(0x73616621, 0, 0, 0, 0);
        x.safe(4);
        Due.is("word ahead of the bad byte", x.fault(), 1);
        Due.is("its place", x.where(), 0);
        x.feed(0x20202021, 0, 0, 0, 0);
        x.safe(4);
        Due.is("bad byte's place", x.where(), 3);
    }

    private static void soundTexts() {
        SafeSenate x = new SafeSenate();
        Due.is("one senator", Due.tell(x, ONE), 1);
        Due.is("no trouble", x.trouble(), 0);
        Due.is("no fault", x.fault(), 0);
        Due.is("no place", x.where(), -1);
        Due.is("tape is empty", x.size(15), 0);
        Due.is("blanks mean nothing", Due.tell(x, "  " + ONE.replace(";", "  ;  ") + "   "), 1);
        Due.is("digits part from letters", Due.tell(x,
            "safe quorum1heat9thunder100salt009;hook a air0;senator p cold at a good099votes 9"), 1);
        Due.is("thunder 100", x.size(2), 100);
        Due.is("good 99", x.senator(0, 2), 99);
        Due.is("keywords inside are NAMES", Due.tell(x,
            SAFE + ";hook at air 1;hook good air 2;senator fresh fresh at at good 1 votes 0;"
                + "senator cold salted at good good 1 votes 0;act day day 3;for fresh day;act quorum day 0"), 2);
        Due.is("its day", x.act(0, 0), 3);
        Due.is("who is for it", x.act(0, 1), 1);
        Due.is("names of eight letters", Due.tell(x,
            SAFE + ";hook aaaaaaaa air 1;hook aaaaaaab air 1;senator pppppppp fresh at aaaaaaab good 5 votes 1"), 1);
        Due.is("its hook", x.senator(0, 1), 1);
        Due.is("more bytes on the tape than used", feedMore(x), 1);
    }

    private static int feedMore(SafeSenate x) {
        byte[] bytes = (ONE + "!!!!").getBytes(java.nio.charset.StandardCharsets.ISO_8859_1);
        Due.feedBytes(x, bytes);
        return x.safe(ONE.length());
    }

    private static void numbers() {
        SafeSenate x = Due.of(ONE);
        Due.refused("safe(-1)", x, x.safe(-1), 2);
        Due.refused("safe(1), empty tape", x, x.safe(1), 2);
        Due.refused("safe(MAX)", x, x.safe(Integer.MAX_VALUE), 2);
        Due.refused("safe(MIN)", x, x.safe(Integer.MIN_VALUE), 2);
        Due.is("where after 2", x.where(), -1);
        Due.is("fault not of one refused by 2", x.fault(), 0);
        Due.tell(x, "!");
        x.safe(-1);
        Due.is("fault stays through 2", x.fault(), 1);
        Due.is("where does not", x.where(), -1);
    }

    private static void faults() {
        Due.faultAt("#", 1);
        Due.faultAt("   #", 1);
        Due.faultAt("#;", 1);
        Due.faultAt("#foo", 1);
        Due.faultAt("#12", 1);
        Due.faultAt("#Safe", 1);
        Due.faultAt("#\t", 1);
        Due.faultAt("#" + (char) 233, 1);
        Due.faultAt("#safequorum", 1);
        Due.faultAt("#hook", 6);
        Due.faultAt("#senator", 6);
        Due.faultAt("#act", 6);
        Due.faultAt("#for", 6);
        Due.faultAt("#rests", 6);
        Due.faultAt("#doubted", 6);
        Due.faultAt("#went", 6);
        Due.faultAt("#fell", 6);
        Due.faultAt("safe#", 1);
        Due.faultAt("safe #heat", 1);
        Due.faultAt("safe #2", 1);
        Due.faultAt("safe quorum#", 1);
        Due.faultAt("safe quorum #x", 1);
        Due.faultAt("safe quorum #1234", 1);
        Due.faultAt("safe quorum 2 #quorum", 1);
        Due.faultAt("safe quorum 2 #2", 1);
        Due.faultAt("safe quorum 2 heat 5 thunder 5 salt 5 #5", 1);
        Due.faultAt(SAFE + "#", 6);
        Due.faultAt(SAFE + "   #", 6);
        Due.faultAt(SAFE + ";#", 1);
        Due.faultAt(SAFE + ";hook a air 1#", 6);
        Due.faultAt(SAFE + ";#;", 1);
        Due.faultAt(SAFE + " #safe", 1);
        Due.faultAt(SAFE + ";#safe", 3);
        Due.faultAt(ONE + ";#", 1);
        Due.faultAt(ONE + "#.", 1);
        Due.faultAt(ONE + ";hook #abcdefghi", 1);
        Due.faultAt(ONE + ";hook #safe", 1);
        Due.faultAt(ONE + ";hook #a", 3);
        Due.faultAt(ONE + ";hook #p", 3);
        Due.faultAt(ONE + ";hook b #12", 1);
        Due.faultAt(ONE + ";senator #a", 3);
        Due.faultAt(ONE + ";senator #p", 3);
        Due.faultAt(ONE + ";senator #hook", 1);
        Due.faultAt(ONE + ";senator q #at", 1);
        Due.faultAt(ONE + ";senator q fresh #a", 1);
        Due.faultAt(ONE + ";senator q fresh at #p", 2);
        Due.faultAt(ONE + ";senator q fresh at #q", 2);
        Due.faultAt(ONE + ";senator q fresh at #z", 2);
        Due.faultAt(ONE + ";senator q fresh at #fell", 1);
        Due.faultAt(ONE + ";senator q fresh at #1", 1);
        Due.faultAt(ONE + ";senator q fresh at #a", 7);
        Due.faultAt(ONE + ";hook b air 1;senator q fresh at b#", 1);
        Due.faultAt(ONE + ";hook b air 1;senator q fresh at b good 5 votes#", 1);
        Due.faultAt(ONE + ";act #p", 3);
        Due.faultAt(ONE + ";act x day 1;act #x", 3);
        Due.faultAt(Due.BASE + ";for #x", 2);
        Due.faultAt(Due.BASE + ";for #a", 2);
        Due.faultAt(Due.BASE + ";for #went", 1);
        Due.faultAt(Due.BASE + ";for p #p", 2);
        Due.faultAt(Due.BASE + ";for p #z", 2);
        Due.faultAt(Due.BASE + ";for p x;for p y;for p #x", 3);
        Due.faultAt(Due.BASE + ";rests #p", 2);
        Due.faultAt(Due.BASE + ";rests x #x", 3);
        Due.faultAt(Due.BASE + ";rests x #a", 2);
        Due.faultAt(Due.BASE + ";rests x y;rests y x;rests y #x", 3);
        Due.faultAt(Due.BASE + ";doubted #y", 2);
        Due.faultAt(Due.BASE + ";doubted p;#doubted p", 3);
        Due.faultAt(Due.BASE + ";went #p", 2);
        Due.faultAt(Due.BASE + ";went x;went #x", 3);
        Due.faultAt(Due.BASE + ";fell x;went y;fell #y", 3);
        Due.faultAt(Due.BASE + ";fell x;went #x", 3);
        Due.faultAt(Due.BASE + ";for p x #y", 1);
    }

    private static void bounds() {
        Due.faultAt("safe quorum #0", 4);
        Due.faultAt("safe quorum #7", 4);
        Due.faultAt("safe quorum 6 heat #0", 4);
        Due.faultAt("safe quorum 1 heat #10", 4);
        Due.faultAt("safe quorum 1 heat 9 thunder #101", 4);
        Due.faultAt("safe quorum 1 heat 1 thunder 100 salt #10", 4);
        Due.faultAt(SAFE + ";hook a air #10", 4);
        Due.faultAt(SAFE + ";hook a air 9;senator p cold at a good #0", 4);
        Due.faultAt(SAFE + ";hook a air 0;senator p cold at a good #100", 4);
        Due.faultAt(SAFE + ";hook a air 0;senator p cold at a good 99 votes #10", 4);
        Due.faultAt(ONE + ";act x day #41", 4);
        Due.is("edges are fine", Due.tell(new SafeSenate(),
            "safe quorum 6 heat 9 thunder 0 salt 0;hook a air 9;senator p salted at a good 1 votes 0;act x day 40;act y day 0"), 1);
    }

    private static void rooms() {
        String hooks = SAFE + ";hook a air 1;hook b air 1;hook c air 1;hook d air 1;hook e air 1;hook f air 1";
        Due.faultAt(hooks + ";#hook", 5);
        String senators = hooks + ";senator g cold at a good 1 votes 1;senator h cold at b good 1 votes 1"
            + ";senator i cold at c good 1 votes 1;senator j cold at d good 1 votes 1"
            + ";senator k cold at e good 1 votes 1;senator l cold at f good 1 votes 1";
        Due.faultAt(senators + ";#senator g", 5);
        String acts = senators + ";act m day 1;act n day 1;act o day 1;act p day 1;act q day 1";
        Due.faultAt(acts + ";#act 7", 5);
        StringBuilder text = new StringBuilder(acts);
        for (int i = 0; i < 15; i++) {
            text.append(";for ").append((char) ('g' + i % 6)).append(' ').append((char) ('m' + i % 5));
        }
        String fors = text.toString();
        Due.faultAt(fors + ";#for g m", 5);
        String rests = fors + ";rests m n;rests m o;rests m p;rests m q;rests n m;rests n o";
        Due.faultAt(rests + ";#rests n o", 5);
        String all = rests + ";doubted l;went m;fell n;went o;fell p;went q";
        Due.faultAt(all + ";went #m", 3);
        SafeSenate x = Due.of(all);
        int[] sizes = {2, 5, 5, 5, 6, 6, 5, 15, 6, 1, 5, 0, 0, 0, 0, 0};
        for (int what = 0; what < sizes.length; what++) {
            Due.is("full size " + what, x.size(what), sizes[what]);
        }
    }

    /** Of several faults the one furthest to the left counts, whatever its number. */
    private static void order() {
        Due.faultAt("#hook a air 77!", 6);
        Due.faultAt(SAFE + ";hook a air #10;!", 4);
        Due.faultAt(ONE + ";senator q cold at #a good 0", 7);
        Due.faultAt(ONE + "#!;hook a", 1);
        Due.faultAt(Due.BASE + ";for #x p", 2);
        Due.faultAt(Due.BASE + ";doubted p;#doubted !", 3);
    }

    private static void wholeTape() {
        String blanks = " ".repeat(900 - ONE.length());
        Due.is("900 bytes, blanks ahead", Due.tell(new SafeSenate(), blanks + ONE), 1);
        Due.is("900 bytes, blanks behind", Due.tell(new SafeSenate(), ONE + blanks), 1);
        String open = ONE + ";hook b air";
        Due.fault(" ".repeat(900 - open.length()) + open, 1, 900);
        Due.fault(";".repeat(900), 1, 0);
        Due.fault("1".repeat(900), 1, 0);
        Due.fault("a".repeat(900), 1, 0);
        Due.fault(" ".repeat(900), 1, 900);
    }

    private static void stays() {
        SafeSenate x = Due.of(Due.BASE);
        x.day();
        x.image();
        Due.refused("a faulty text", x, Due.tell(x, "safe quorum 1 heat 1 thunder 1 salt 1;hook z air 7"), 4);
        Due.is("the SAFE stays", x.size(0), 2);
        Due.is("its air stays", x.hook(0, 0), 1);
        Due.is("its day stays", x.size(11), 1);
        Due.is("undoing stays", x.size(13), 1);
        Due.is("images stay", x.size(14), 1);
        x.seed(9);
        Due.is("another text", Due.tell(x, ONE), 1);
        Due.is("day 0", x.size(11), 0);
        Due.is("SEED 0", x.size(12), 0);
        Due.is("nothing to undo", x.size(13), 0);
        Due.is("no images", x.size(14), 0);
        Due.refused("back(0)", x, x.back(0), 1);
        Due.is("no acts of the old SAFE", x.size(6), 0);
        Due.is("nobody is for what he was for", Due.tell(x, Due.BASE), 1);
        Due.is("for", x.act(0, 1), 0);
    }
}
