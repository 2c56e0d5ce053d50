/** Promises 43 to 49: day, move, salt, seed, undo, image, back; and 50 to 52: led, size, trouble. */
public final class ActsTest {
    private static final String TEXT = "safe quorum 2 heat 4 thunder 50 salt 2;hook a air 1;hook b air 0;hook c air 3;"
        + "senator p fresh at a good 9 votes 1;senator q cold at b good 6 votes 1;act x day 1;for p x;doubted p;went x";

    public static void main(String[] args) {
        days();
        moves();
        salts();
        seeds();
        undoing();
        images();
        told();
        refusals();
        Due.end();
    }

    private static void days() {
        SafeSenate x = Due.of(TEXT);
        Due.is("day 1, no thunder", x.day(), 3);
        Due.is("p", x.senator(0, 2), 6);
        Due.is("q", x.senator(1, 2), 4);
        Due.is("SEED", x.size(12), 74);
        Due.is("day 2, thunder", x.day(), 0);
        Due.is("p is off", x.senator(0, 2), 0);
        Due.is("q is off", x.senator(1, 2), 0);
        Due.is("SEED", x.size(12), 5624);
        for (int day = 3; day <= 99; day++) {
            Due.is("day " + day, x.day(), 0);
        }
        Due.is("the last day", x.size(11), 99);
        Due.refused("day 99", x, x.day(), 3);
        Due.is("16 can be undone", x.size(13), 16);
        SafeSenate salted = Due.of(TEXT.replace("fresh", "salted").replace("thunder 50", "thunder 100"));
        salted.day();
        Due.is("even, and no thunder for the salted", salted.senator(0, 2), 8);
        salted.day();
        Due.is("odd", salted.senator(0, 2), 8);
        Due.is("cold by thunder", salted.senator(1, 2), 0);
    }

    private static void moves() {
        SafeSenate x = Due.of(TEXT);
        Due.is("to an empty hook", x.move(0, 2), -2);
        Due.is("his hook", x.senator(0, 1), 2);
        Due.is("nobody at a", x.hook(0, 1), -2);
        Due.is("changing over", x.move(0, 1), 1);
        Due.is("p at b", x.senator(0, 1), 1);
        Due.is("q at c", x.senator(1, 1), 2);
        Due.refused("he hangs there", x, x.move(0, 1), 5);
        Due.is("two ACTS", x.size(13), 2);
    }

    private static void salts() {
        SafeSenate x = Due.of(TEXT);
        Due.is("salt", x.salt(0), true);
        Due.is("one less", x.size(3), 1);
        Due.refused("again", x, x.salt(0), 5);
        Due.is("no ACT", x.size(13), 1);
        Due.is("q", x.salt(1), true);
        Due.is("none is left", x.size(3), 0);
        Due.refused("5 ahead of 6", x, x.salt(1), 5);
        SafeSenate y = Due.of(TEXT.replace("salt 2", "salt 0"));
        Due.refused("no salt", y, y.salt(0), 6);
        y.day();
        y.day();
        Due.refused("OFF", y, y.salt(0), 5);
    }

    private static void seeds() {
        SafeSenate x = Due.of(TEXT);
        Due.is("seed", x.seed(65536), true);
        Due.is("SEED", x.size(12), 65536);
        Due.is("no ACT", x.size(13), 0);
        x.day();
        // 75 times -1 and 74 is -1 again
        Due.is("SEED behind a day", x.size(12), 65536);
        Due.refused("65537", x, x.seed(65537), 2);
        Due.refused("-1", x, x.seed(-1), 2);
        Due.is("the SEED stays", x.size(12), 65536);
        Due.is("0", x.seed(0), true);
        x.undo();
        Due.is("undone with the ACT", x.size(12), 65536);
    }

    private static void undoing() {
        SafeSenate x = Due.of(TEXT);
        x.salt(0);
        x.move(0, 1);
        x.day();
        Due.is("undo the day", x.undo(), true);
        Due.is("day 0", x.size(11), 0);
        Due.is("SEED 0", x.size(12), 0);
        Due.is("p", x.senator(0, 2), 9);
        Due.is("undo the move", x.undo(), true);
        Due.is("p at a", x.senator(0, 1), 0);
        Due.is("q at b", x.senator(1, 1), 1);
        Due.is("undo the salt", x.undo(), true);
        Due.is("fresh", x.senator(0, 0), 0);
        Due.is("salt", x.size(3), 2);
        Due.refused("no more", x, x.undo(), 6);
        for (int i = 0; i < 20; i++) {
            x.day();
        }
        for (int i = 0; i < 16; i++) {
            Due.is("undo " + i, x.undo(), true);
            Due.is("day", x.size(11), 19 - i);
            Due.is("left to undo", x.size(13), 15 - i);
        }
        Due.refused("only 16", x, x.undo(), 6);
        Due.is("day 4", x.size(11), 4);
        SafeSenate past = Due.of(TEXT.replace("thunder 50", "thunder 0"));
        past.day();
        past.day();
        Due.is("x of day 1", past.going(), 0);
        past.undo();
        past.move(1, 0);
        Due.is("still day 1", past.going(), 0);
    }

    private static void images() {
        SafeSenate x = Due.of(TEXT);
        Due.is("the first", x.image(), 0);
        x.salt(0);
        x.seed(99);
        Due.is("the second", x.image(), 1);
        x.day();
        x.move(0, 2);
        Due.is("the third", x.image(), 2);
        Due.refused("no room", x, x.image(), 3);
        Due.is("IMAGES", x.size(14), 3);
        Due.is("image is no ACT", x.size(13), 3);
        Due.is("back", x.back(1), true);
        Due.is("day 0", x.size(11), 0);
        Due.is("SEED as then", x.size(12), 99);
        Due.is("salted as then", x.senator(0, 0), 1);
        Due.is("hung as then", x.senator(0, 1), 0);
        Due.is("salt as then", x.size(3), 1);
        Due.is("nothing to undo", x.size(13), 0);
        Due.refused("undo", x, x.undo(), 6);
        Due.is("all IMAGES stay", x.size(14), 3);
        Due.is("ahead again", x.back(2), true);
        Due.is("day 1", x.size(11), 1);
        Due.is("at c", x.senator(0, 1), 2);
        Due.is("to the first", x.back(0), true);
        Due.is("fresh", x.senator(0, 0), 0);
        x.day();
        x.undo();
        Due.is("undoing works behind it", x.size(11), 0);
        Due.refused("no such image", x, x.back(3), 1);
        Due.refused("no such image", x, x.back(-1), 1);
    }

    private static void told() {
        SafeSenate x = Due.of(TEXT);
        Due.ledThrows(x, 0);
        x.day();
        x.day();
        Due.is("led 0", x.led(0), 0);
        Due.is("led 1", x.led(1), 1);
        Due.ledThrows(x, 2);
        Due.ledThrows(x, -1);
        Due.ledThrows(x, Integer.MAX_VALUE);
        Due.ledThrows(x, Integer.MIN_VALUE);
        SafeSenate y = Due.of(TEXT.replace("thunder 50", "thunder 100").replace("good 9", "good 99"));
        y.day();
        y.day();
        Due.is("q alone is off", y.led(0), 1);
        Due.ledThrows(y, 1);
        x.feed(0, 0, 0, 0, 0);
        x.image();
        int[] sizes = {2, 4, 50, 2, 3, 2, 1, 1, 0, 1, 1, 2, 5624, 2, 1, 20};
        for (int what = 0; what < sizes.length; what++) {
            Due.is("size " + what, x.size(what), sizes[what]);
        }
        x.good();
        Due.is("size 16", x.size(16), -1);
        Due.is("size -1", x.size(-1), -1);
        Due.is("size MIN", x.size(Integer.MIN_VALUE), -1);
        Due.is("size MAX", x.size(Integer.MAX_VALUE), -1);
        Due.is("size tells no trouble", x.trouble(), 0);
        x.undo();
        x.undo();
        x.undo();
        Due.is("trouble", x.trouble(), 6);
        Due.ledThrows(x, 5);
        x.size(99);
        x.fault();
        x.where();
        Due.is("trouble is of the latest that may be refused", x.trouble(), 6);
        x.ring();
        Due.is("no trouble", x.trouble(), 0);
    }

    private static void refusals() {
        SafeSenate none = new SafeSenate();
        Due.refused("day", none, none.day(), 1);
        Due.refused("move", none, none.move(0, 0), 1);
        Due.refused("salt", none, none.salt(0), 1);
        Due.refused("seed", none, none.seed(-1), 1);
        Due.refused("undo", none, none.undo(), 6);
        Due.refused("image", none, none.image(), 1);
        Due.refused("back", none, none.back(0), 1);
        SafeSenate x = Due.of(TEXT);
        int[] wild = {-1, 3, Integer.MAX_VALUE, Integer.MIN_VALUE};
        for (int w : wild) {
            Due.refused("move s " + w, x, x.move(w, 0), 1);
            Due.refused("move h " + w, x, x.move(0, w), 1);
            Due.refused("salt " + w, x, x.salt(w), 1);
            Due.refused("back " + w, x, x.back(w), 1);
        }
        Due.is("no ACTS", x.size(13), 0);
    }
}
