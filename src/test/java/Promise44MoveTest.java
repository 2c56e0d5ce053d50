/** Promise 44: move. */
public final class Promise44MoveTest {
    public static void main(String[] args) {
        noneSuch();
        heHangsThere();
        nobodyHungThere();
        whoHangsThereChangesOver();
        theLastHookAndTheLastSenator();
        whoIsOff();
        Due.end();
    }

    private static void noneSuch() {
        Edge.refused("behind the last senator", Edge::used, x -> x.move(2, 0), 1);
        Edge.refused("behind the last hook", Edge::used, x -> x.move(0, 3), 1);
        Edge.refused("behind six", () -> Due.of(Edge.FULL), x -> x.move(6, 0), 1);
        Edge.refused("behind six hooks", () -> Due.of(Edge.FULL), x -> x.move(0, 6), 1);
        Edge.wild("senator", (x, wild) -> x.move(wild, 0), 1);
        Edge.wild("hook", (x, wild) -> x.move(0, wild), 1);
    }

    private static void heHangsThere() {
        Edge.refused("as told", () -> Due.of(Edge.TWO), x -> x.move(1, 1), 5);
        Edge.refused("where he was moved", Edge::used, x -> x.move(0, 2), 5);
    }

    private static void nobodyHungThere() {
        SafeSenate x = Due.of(Edge.TWO);
        Edge.granted("nobody", x, x.move(1, 2), -2);
        Due.is("he hangs there", x.hook(2, 1), 1);
        Due.is("and no longer there", x.hook(1, 1), -2);
        Due.is("the other one stays", x.senator(0, 1), 0);
        Due.is("one to undo", x.size(13), 1);
    }

    private static void whoHangsThereChangesOver() {
        SafeSenate x = Due.of(Edge.TWO);
        Edge.granted("the other one", x, x.move(1, 0), 0);
        Due.is("he hangs there", x.senator(1, 1), 0);
        Due.is("the other one where he hung", x.senator(0, 1), 1);
        Due.is("one to undo", x.size(13), 1);
        Edge.granted("and back", x, x.move(0, 0), 1);
    }

    private static void theLastHookAndTheLastSenator() {
        SafeSenate x = Due.of(Edge.FULL);
        Edge.granted("the first to the last", x, x.move(0, 5), 5);
        Edge.granted("the last to the second", x, x.move(5, 1), 1);
        int[] hooks = {5, 0, 2, 3, 4, 1};
        for (int s = 0; s < 6; s++) {
            Due.is("hook of " + s, x.senator(s, 1), hooks[s]);
            Due.is("who hangs there", x.hook(hooks[s], 1), s);
        }
    }

    private static void whoIsOff() {
        SafeSenate x = Due.of(Edge.TWO);
        Edge.days(x, 20);
        Due.is("both are OFF", x.good(), 0);
        Edge.granted("he is moved likewise", x, x.move(0, 1), 1);
    }
}
