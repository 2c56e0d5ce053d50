/** Promise 49: back. */
public final class Promise49BackTest {
    public static void main(String[] args) {
        noneSuch();
        allAsByTheImage();
        allImagesStay();
        nothingCanBeUndone();
        theImageIsNotChanged();
        actsOfDaysGoneBy();
        actsOfTheLastDays();
        Due.end();
    }

    private static void noneSuch() {
        Edge.refused("no IMAGES", () -> Due.of(Edge.TWO), x -> x.back(0) ? 1 : 0, 0, 1);
        Edge.refused("behind the last", Edge::used, x -> x.back(2) ? 1 : 0, 0, 1);
        Edge.wild("IMAGE", (x, wild) -> x.back(wild) ? 1 : 0, 0, 1);
        SafeSenate x = Due.of(Edge.TWO);
        x.image();
        x.image();
        x.image();
        Due.is("the last of three", x.back(2), true);
        Due.refused("behind three", x, x.back(3), 1);
    }

    private static void allAsByTheImage() {
        SafeSenate x = Edge.used();
        Due.is("to the first", x.back(0), true);
        Due.is("no trouble", x.trouble(), 0);
        int[] first = {0, 0, 2, 0, 9, 6, 0, 2};
        int[] second = {1, 77, 1, 2, 7, 5, 0, 1};
        asBy(x, first);
        Due.is("ahead to the second", x.back(1), true);
        asBy(x, second);
        Due.is("and once more", x.back(0), true);
        asBy(x, first);
        SafeSenate y = Edge.used();
        Due.is("THE TAPE is none of it", y.back(0) ? y.size(15) : 0, 60);
    }

    private static void asBy(SafeSenate x, int[] want) {
        int[] got = {x.size(11), x.size(12), x.size(3), x.senator(0, 1), x.senator(0, 2), x.senator(1, 2), x.senator(0, 0),
            x.senator(1, 0)};
        for (int i = 0; i < want.length; i++) {
            Due.is("as by the IMAGE, " + i, got[i], want[i]);
        }
    }

    private static void allImagesStay() {
        SafeSenate x = Edge.used();
        x.back(0);
        Due.is("IMAGES", x.size(14), 2);
        Due.is("the next's number", x.image(), 2);
    }

    private static void nothingCanBeUndone() {
        SafeSenate x = Edge.used();
        Due.is("ahead", x.size(13), 3);
        x.back(1);
        Due.is("to a like one", x.size(13), 0);
        Due.refused("undo", x, x.undo(), 6);
        x.day();
        Due.is("ACTS behind it can", x.undo(), true);
        Due.is("up to it", x.size(11), 1);
        Due.refused("and no further", x, x.undo(), 6);
    }

    private static void theImageIsNotChanged() {
        SafeSenate x = Edge.used();
        for (int i = 0; i < 2; i++) {
            x.back(0);
            x.day();
            x.salt(0);
            x.move(1, 2);
            x.seed(1);
        }
        x.back(0);
        Due.is("day", x.size(11), 0);
        Due.is("SEED", x.size(12), 0);
        Due.is("kind", x.senator(0, 0), 0);
        Due.is("hook", x.senator(1, 1), 1);
    }

    /** Who was GOOD on days gone by is as by the IMAGE, too. */
    private static void actsOfDaysGoneBy() {
        SafeSenate x = Due.of("safe quorum 1 heat 2 thunder 100 salt 1" + Edge.hooks(0) + Edge.seat(0, "fresh", 0, 3, 1)
            + ";act u day 1;for pa u");
        x.image();
        Edge.days(x, 2);
        Due.is("OFF by thunder", x.going(), 0);
        x.image();
        x.back(0);
        x.salt(0);
        Edge.days(x, 2);
        Due.is("salted, GOOD", x.going(), 1);
        x.back(1);
        Due.is("as it was", x.going(), 0);
    }

    /** Acts may be put on day 40, so that day's GOOD ones, too, are kept. */
    private static void actsOfTheLastDays() {
        for (int day = 39; day <= 40; day++) {
            SafeSenate x = Due.of("safe quorum 1 heat 1 thunder 0 salt 1" + Edge.hooks(0) + Edge.seat(0, "fresh", 0, day, 1)
                + ";act u day " + day + ";for pa u");
            x.image();
            Edge.days(x, 41);
            Due.is("OFF on day " + day, x.going(), 0);
            x.image();
            x.back(0);
            x.salt(0);
            Edge.days(x, 41);
            Due.is("salted, GOOD on day " + day, x.going(), 1);
            x.back(1);
            Due.is("as it was on day " + day, x.going(), 0);
        }
    }
}
