/** Promise 25: sinceAt. */
public final class Promise25SinceAtTest {
    private static final String DOUBT = Promise24SinceTest.DOUBT;

    public static void main(String[] args) {
        nobodyIsDoubted();
        noneSuch();
        allDays();
        theFirstAndTheLast();
        Edge.asks("sinceAt", x -> x.sinceAt(0));
        Due.end();
    }

    private static void nobodyIsDoubted() {
        int[] any = {-1, 0, 41, 42};
        for (int i : any) {
            Edge.refused("nobody, " + i, () -> Due.of(DOUBT.replace(";doubted pa", "")), x -> x.sinceAt(i), 6);
        }
    }

    private static void noneSuch() {
        Edge.refused("behind the last of 42", () -> Due.of(DOUBT), x -> x.sinceAt(42), 1);
        Edge.refused("behind the last of 40", () -> Due.of(DOUBT + ";went u;fell v"), x -> x.sinceAt(40), 1);
        Edge.refused("behind the only one", () -> Due.of(DOUBT + ";fell u"), x -> x.sinceAt(1), 1);
        Edge.refused("where no day fits", () -> Due.of(DOUBT + ";fell u;went v"), x -> x.sinceAt(0), 1);
        for (int wild : Edge.WILD) {
            Edge.refused("the " + wild, () -> Due.of(DOUBT), x -> x.sinceAt(wild), 1);
        }
    }

    private static void allDays() {
        SafeSenate x = Due.of(DOUBT);
        for (int i = 0; i <= 41; i++) {
            Edge.granted("the " + i, x, x.sinceAt(i), i);
        }
    }

    private static void between(String told, int first, int last) {
        SafeSenate x = Due.of(DOUBT + told);
        Edge.granted("the first of" + told, x, x.sinceAt(0), first);
        Edge.granted("the last of" + told, x, x.sinceAt(last - first), last);
    }

    private static void theFirstAndTheLast() {
        between(";went u", 1, 41);
        between(";fell u", 0, 0);
        between(";went v", 41, 41);
        between(";fell v", 0, 40);
        between(";went w;fell v", 21, 40);
        between(";fell w;went u", 1, 20);
    }
}
