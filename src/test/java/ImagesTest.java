/** What an image keeps and what it does not, each thing by itself; and that images stay. */
public final class ImagesTest {
    private interface Change {
        void on(WineSpoon x);
    }

    public static void main(String[] args) {
        eachThingKept();
        tapeIsNotKept();
        faultIsNotKept();
        stoppedIsNotKept();
        spiltIsNotKept();
        nightIsNotKept();
        refusedCallsAreNotKept();
        statusIsThatOfTheCall();
        imagesStay();
        imagesAreTwo();
        keptAnew();
        emptyImage();
        fullImage();
        sameNumbersBehindBack();
        nothingComesBackIntoNewGlasses();
        Check.close();
    }

    private static void due(String call, long got, long want) {
        Check.due(call, got, want);
    }

    /** Three glasses with fractions, two spoons, two tastings, three wines. */
    private static WineSpoon table() {
        WineSpoon x = new WineSpoon();
        x.glass(10);
        x.glass(11);
        x.glass(12);
        x.fill(0, 0, 6);
        x.fill(1, 1, 6);
        x.fill(2, 3, 1);
        x.spoon(0, 1, 2);
        x.spoon(1, 0, 3);
        x.size(1);
        x.size(3);
        x.tasting(2, 3, 100);
        x.tasting(2, 0, 0);
        x.wine(0, 1, 5);
        x.wine(50, 4, 5);
        x.wine(100, 9, 5);
        return x;
    }

    private static void comesBack(String name, Change change) {
        for (int k = 0; k < 2; k++) {
            WineSpoon x = table();
            Look kept = Look.at(x);
            due("image " + k, x.image(k), 0);
            change.on(x);
            due("back to " + k + " behind " + name, x.back(k), 0);
            kept.same(name + " and back to " + k, Look.at(x));
        }
    }

    private static void eachThingKept() {
        comesBack("nothing", x -> x.lower());
        comesBack("glass", x -> x.glass(60));
        comesBack("three glasses, filled", ImagesTest::threeMore);
        comesBack("fill", x -> x.fill(2, 2, 11));
        comesBack("spoon", x -> x.spoon(0, 1, 1));
        comesBack("lick", x -> x.lick(1, 5));
        comesBack("empty", x -> x.empty(0));
        comesBack("all emptied", ImagesTest::emptyAll);
        comesBack("evening", x -> Check.evening(x, "spoon 1 from 0 to 2 times 3; fill 3 4 to 1; lick full 2 from 2"));
        comesBack("size", x -> x.size(60));
        comesBack("wash", x -> x.wash());
        comesBack("other spoons", ImagesTest::otherSpoons);
        comesBack("tasting", x -> x.tasting(0, 1, 99));
        comesBack("other tastings", ImagesTest::otherTastings);
        comesBack("wine", x -> x.wine(25, 2, 20));
        comesBack("drink the first", x -> x.drink(0));
        comesBack("drink the last", x -> x.drink(2));
        comesBack("other wines", ImagesTest::otherWines);
    }

    private static void threeMore(WineSpoon x) {
        for (int g = 3; g < 6; g++) {
            x.glass(60);
            x.fill(g, 0, 7);
            x.spoon(0, g, 1);
        }
    }

    private static void emptyAll(WineSpoon x) {
        x.empty(0);
        x.empty(1);
        x.empty(2);
    }

    private static void otherSpoons(WineSpoon x) {
        x.wash();
        x.size(50);
        x.size(51);
        x.size(52);
    }

    private static void otherTastings(WineSpoon x) {
        x.wash();
        x.size(1);
        x.size(3);
        for (int k = 0; k < 6; k++) {
            x.tasting(0, 2, 77);
        }
    }

    private static void otherWines(WineSpoon x) {
        for (int k = 0; k < 3; k++) {
            x.drink(0);
        }
        for (int k = 0; k < 6; k++) {
            x.wine(25 * (k % 5), 50, 1);
        }
    }

    private static void tapeIsNotKept() {
        WineSpoon x = table();
        Check.tell(x, "lick 1 from 0 if 1 = 2; lick");
        x.image(0);
        due("as long as a later one", x.end(22), 22);
        due("back", x.back(0), 0);
        due("the later one stays", x.count(4), 22);
        due("and can be read", x.evening(), 0);
        due("back to a tape that is empty now", x.back(0), 0);
        due("it stays empty", x.count(4), 0);
    }

    private static void faultIsNotKept() {
        WineSpoon x = table();
        Check.evening(x, "  nothing");
        x.image(0);
        Check.evening(x, "lick nothing");
        x.back(0);
        due("the later fault stays", x.fault(), 5);
        Check.evening(x, "lick 1 from 0");
        x.back(0);
        due("no fault stays, too", x.fault(), -1);
    }

    private static void stoppedIsNotKept() {
        WineSpoon x = table();
        Check.evening(x, "lick 60 from 0");
        x.image(0);
        Check.evening(x, "lick 1 from 0; lick 60 from 0");
        x.back(0);
        due("the later stop stays", x.stopped(), 1);
        Check.evening(x, "lick 1 from 0");
        x.back(0);
        due("no stop stays, too", x.stopped(), -1);
    }

    private static void spiltIsNotKept() {
        WineSpoon x = table();
        Check.tell(x, "\0\0");
        x.row();
        x.image(0);
        Check.tell(x, "\0\0\0\0");
        x.row();
        x.back(0);
        due("what was spilt later stays", x.spilt(), 3);
    }

    private static void nightIsNotKept() {
        WineSpoon x = table();
        x.night(7, 1);
        x.image(0);
        emptyAll(x);
        x.night(7, 1);
        x.back(0);
        due("the later night stays", x.drawn(2, 3), 0);
        due("while the glass is as it was", x.taste(2, 3), 100);
        x = new WineSpoon();
        x.image(0);
        x.glass(5);
        x.night(7, 1);
        x.back(0);
        due("of a glass that is gone", x.drawn(0, 0), 0);
        due("it is gone", x.of(0, 0), -1);
    }

    private static void refusedCallsAreNotKept() {
        WineSpoon x = table();
        x.image(0);
        x.glass(0);
        x.empty(6);
        x.lick(0, 60);
        x.size(9);
        x.size(9);
        x.row();
        x.back(0);
        for (int what = 5; what <= 9; what++) {
            due("refused calls " + what, x.count(what), 1);
        }
    }

    private static void statusIsThatOfTheCall() {
        WineSpoon x = table();
        x.glass(0);
        x.image(0);
        due("image is not refused", x.status(), 0);
        x.glass(0);
        x.back(0);
        due("nor is back", x.status(), 0);
    }

    private static void imagesStay() {
        WineSpoon x = table();
        Look kept = Look.at(x);
        x.image(0);
        for (int k = 0; k < 2; k++) {
            due("back", x.back(0), 0);
            threeMore(x);
            emptyAll(x);
            otherSpoons(x);
            otherWines(x);
        }
        due("back again", x.back(0), 0);
        kept.same("back again", Look.at(x));
    }

    private static void imagesAreTwo() {
        WineSpoon x = table();
        x.image(0);
        x.glass(20);
        x.fill(3, 2, 20);
        x.image(1);
        x.empty(3);
        due("back to the first", x.back(0), 0);
        due("three glasses", x.count(0), 3);
        due("back to the second", x.back(1), 0);
        due("four glasses", x.count(0), 4);
        due("the fourth is full", x.of(3, 1), 20);
        due("back to the first again", x.back(0), 0);
        due("three glasses again", x.count(0), 3);
        // an image of what one has gone back to
        due("the second becomes the first", x.image(1), 0);
        x.glass(1);
        x.back(1);
        due("three glasses of both", x.count(0), 3);
    }

    private static void keptAnew() {
        WineSpoon x = table();
        x.image(0);
        x.empty(0);
        due("kept anew", x.image(0), 0);
        x.fill(0, 0, 9);
        x.back(0);
        due("as it was the later time", x.of(0, 1), 0);
        due("the other is not kept by that", x.back(1), -2);
    }

    private static void emptyImage() {
        WineSpoon x = new WineSpoon();
        Look kept = Look.at(x);
        due("image of nothing", x.image(1), 0);
        x.glass(60);
        x.fill(0, 0, 1);
        x.fill(0, 1, 1);
        x.lick(0, 1);
        x.size(1);
        x.tasting(0, 0, 50);
        x.wine(50, 1, 1);
        due("back to nothing", x.back(1), 0);
        kept.same("back to nothing", Look.at(x));
        due("a first glass again", x.glass(5), 0);
        due("of its own size", x.of(0, 0), 5);
    }

    private static void fullImage() {
        WineSpoon x = table();
        threeMore(x);
        x.size(5);
        for (int k = 2; k < 6; k++) {
            due("tasting", x.tasting(5, 3, 0), k + 1);
        }
        for (int k = 3; k < 6; k++) {
            due("wine", x.wine(75, 7, k), k);
        }
        Look kept = Look.at(x);
        x.image(0);
        for (int g = 0; g < 6; g++) {
            x.empty(g);
        }
        otherTastings(x);
        for (int k = 0; k < 6; k++) {
            x.drink(0);
        }
        x.back(0);
        kept.same("back to as much as can be", Look.at(x));
        due("no room for a glass", x.glass(1), -5);
        due("no room for a spoon", x.size(1), -5);
        due("no room for a tasting", x.tasting(0, 0, 1), -5);
        due("no room for a wine", x.wine(1, 1, 1), -5);
    }

    /** What comes behind back has the numbers it would have had then. */
    private static void sameNumbersBehindBack() {
        WineSpoon x = table();
        x.image(1);
        due("glass", x.glass(9), 3);
        due("spoon", x.size(9), 2);
        due("tasting", x.tasting(0, 0, 9), 3);
        due("wine", x.wine(9, 9, 9), 3);
        x.back(1);
        due("glass again", x.glass(8), 3);
        due("its size", x.of(3, 0), 8);
        due("spoon again", x.size(8), 2);
        due("its size", x.count(12), 8);
        due("tasting again", x.tasting(0, 0, 9), 3);
        due("wine again", x.wine(8, 8, 8), 3);
        due("its price", x.mix(1, 8, 0), 8);
        due("the earlier one is gone", x.mix(1, 9, 0), -1);
    }

    /** Moves behind back must not bring up again what was in glasses that are no longer there. */
    private static void nothingComesBackIntoNewGlasses() {
        for (int ahead = 0; ahead < 4; ahead++) {
            for (int moves = 0; moves < 4; moves++) {
                WineSpoon x = table();
                x.image(0);
                threeMore(x);
                for (int k = 0; k < ahead; k++) {
                    x.spoon(3, 4, 1);
                }
                x.back(0);
                for (int k = 0; k < moves; k++) {
                    due("a move behind back", x.lick(1, 1) >= 0 ? 1 : 0, 1);
                }
                newGlassesAreEmpty(x);
            }
        }
    }

    private static void newGlassesAreEmpty(WineSpoon x) {
        for (int g = 3; g < 6; g++) {
            due("a new glass", x.glass(30), g);
            due("is empty", x.of(g, 1), 0);
            for (int s = 0; s < 4; s++) {
                due("of stuff " + s, x.part(g, s), 0);
                due("tastes of none", x.taste(g, s), 0);
            }
        }
    }
}
