/** Promise 7: hook. */
public final class Promise07HookTest {
    public static void main(String[] args) {
        noneSuch();
        airs();
        whoHangsThere();
        whoIsOffHangsThereStill();
        Edge.asks("hook", x -> x.hook(1, 1));
        Due.end();
    }

    private static void noneSuch() {
        Edge.refused("behind the last hook", Edge::used, x -> x.hook(3, 0), 1);
        Edge.refused("behind the last of what", Edge::used, x -> x.hook(0, 2), 1);
        Edge.refused("behind six", () -> Due.of(Edge.FULL), x -> x.hook(6, 1), 1);
        Edge.wild("hook", (x, wild) -> x.hook(wild, 0), 1);
        Edge.wild("what", (x, wild) -> x.hook(0, wild), 1);
    }

    private static void airs() {
        SafeSenate x = Due.of(Edge.FULL);
        int[] airs = {0, 1, 2, 3, 4, 9};
        for (int h = 0; h < 6; h++) {
            Edge.granted("air " + h, x, x.hook(h, 0), airs[h]);
            Edge.granted("who " + h, x, x.hook(h, 1), h);
        }
    }

    private static void whoHangsThere() {
        SafeSenate x = Due.of(Edge.TWO);
        Edge.granted("nobody", x, x.hook(2, 1), -2);
        x.move(0, 2);
        Edge.granted("one who was moved there", x, x.hook(2, 1), 0);
        Edge.granted("nobody where he hung", x, x.hook(0, 1), -2);
        x.move(0, 1);
        Edge.granted("changed over", x, x.hook(2, 1), 1);
        Edge.granted("changed over, too", x, x.hook(1, 1), 0);
    }

    private static void whoIsOffHangsThereStill() {
        SafeSenate x = Edge.one("fresh", 1, 9);
        x.day();
        Due.is("OFF", x.good(), 0);
        Due.is("hangs there", x.hook(0, 1), 0);
    }
}
