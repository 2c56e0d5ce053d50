/** Promise 48: image. */
public final class Promise48ImageTest {
    public static void main(String[] args) {
        upToThree();
        noRoom();
        noAct();
        ofWhatIsNow();
        Due.end();
    }

    private static void upToThree() {
        SafeSenate x = Due.of(Edge.TWO);
        for (int i = 0; i < 3; i++) {
            Edge.granted("its number", x, x.image(), i);
            Due.is("IMAGES", x.size(14), i + 1);
        }
    }

    private static SafeSenate full() {
        SafeSenate x = Edge.used();
        x.image();
        return x;
    }

    private static void noRoom() {
        Edge.refused("a fourth", Promise48ImageTest::full, x -> x.image(), 3);
        SafeSenate x = full();
        x.back(0);
        Due.refused("gone back all stay", x, x.image(), 3);
        x.undo();
        Due.refused("there is no more room by undoing", x, x.image(), 3);
        Due.tell(x, "!");
        Due.refused("nor by a FAULT", x, x.image(), 3);
        Due.tell(x, Edge.TWO);
        Edge.granted("but by another SAFE", x, x.image(), 0);
    }

    private static void noAct() {
        SafeSenate x = Due.of(Edge.TWO);
        x.image();
        Due.is("nothing to undo", x.size(13), 0);
    }

    private static void ofWhatIsNow() {
        SafeSenate x = Due.of(Edge.TWO);
        x.seed(3);
        x.day();
        x.move(0, 2);
        x.salt(0);
        x.image();
        int seed = x.size(12);
        int left = x.senator(0, 2);
        Edge.days(x, 3);
        x.back(0);
        Due.is("day", x.size(11), 1);
        Due.is("SEED", x.size(12), seed);
        Due.is("salt", x.size(3), 1);
        Due.is("hook", x.senator(0, 1), 2);
        Due.is("kind", x.senator(0, 0), 1);
        Due.is("days left", x.senator(0, 2), left);
    }
}
