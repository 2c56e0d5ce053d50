/** Promise 5: where. */
public final class Promise05WhereTest {
    public static void main(String[] args) {
        noneWithoutOne();
        theFirstAndTheLastPlace();
        goneByTheNextThatMayBeRefused();
        staysThroughTheOthers();
        notBehindOneRefusedByTwo();
        Due.end();
    }

    private static SafeSenate faulty() {
        SafeSenate x = Due.of(Edge.TWO);
        Due.tell(x, Edge.TWO + ";hook a");
        Due.is("its place", x.where(), Edge.TWO.length() + 6);
        return x;
    }

    private static void noneWithoutOne() {
        Due.is("new", new SafeSenate().where(), -1);
        Due.is("behind a sound text", Due.of(Edge.TWO).where(), -1);
        SafeSenate x = new SafeSenate();
        x.good();
        Due.is("refused by 1", x.where(), -1);
        x.undo();
        Due.is("refused by 6", x.where(), -1);
    }

    private static void theFirstAndTheLastPlace() {
        Due.fault("", 1, 0);
        Due.fault("!" + " ".repeat(899), 1, 0);
        Due.fault(" ".repeat(899) + "!", 1, 899);
        Due.fault(" ".repeat(900), 1, 900);
        Due.fault(" ".repeat(896) + "safe", 1, 900);
        Due.fault(Edge.SAFE + " ".repeat(900 - Edge.SAFE.length()), 6, 900);
    }

    private static void goneByTheNextThatMayBeRefused() {
        SafeSenate granted = faulty();
        granted.good();
        Due.is("granted", granted.where(), -1);
        SafeSenate refused = faulty();
        refused.senator(9, 0);
        Due.is("refused by another number", refused.where(), -1);
        SafeSenate act = faulty();
        act.undo();
        Due.is("undo", act.where(), -1);
        SafeSenate sound = faulty();
        Due.tell(sound, Edge.TWO);
        Due.is("a sound text", sound.where(), -1);
    }

    private static void staysThroughTheOthers() {
        SafeSenate x = faulty();
        int place = x.where();
        x.feed(0, 0, 0, 0, 0);
        x.fault();
        x.trouble();
        x.size(0);
        x.size(99);
        Edge.led(x, 0);
        Due.is("stays", x.where(), place);
        x.safe(0);
        Due.is("the next fault's", x.where(), 0);
    }

    private static void notBehindOneRefusedByTwo() {
        SafeSenate x = faulty();
        x.safe(-1);
        Due.is("refused by 2", x.where(), -1);
        Due.is("though the FAULT is told still", x.fault(), 3);
    }
}
