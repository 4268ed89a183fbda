/** Nothing at all, and as much as there can be: of glasses, spoons, tastings, wines and of the tape. */
public final class EmptyAndFullTest {
    public static void main(String[] args) {
        newObjectAsked();
        newObjectCalled();
        spoonsWithoutGlasses();
        glassesWithoutSpoons();
        glasses();
        spoons();
        tastings();
        wines();
        tape();
        tapeOfAnEvening();
        tapeOfBytes();
        washed();
        Check.close();
    }

    private static void due(String call, long got, long want) {
        Check.due(call, got, want);
    }

    // Promise 1, and what every question answers then
    private static void newObjectAsked() {
        WineSpoon x = new WineSpoon();
        int[] counts = {0, 0, 0, 0, 0, 0, 0, 0, 0, 0, -1, -1, -1};
        for (int what = 0; what < counts.length; what++) {
            due("count " + what, x.count(what), counts[what]);
        }
        due("of", x.of(0, 0), -1);
        due("part", x.part(0, 0), -1);
        due("lower", x.lower(), 1);
        due("taste", x.taste(0, 0), -1);
        due("spilt", x.spilt(), 0);
        due("fault", x.fault(), -1);
        due("stopped", x.stopped(), -1);
        due("alike", x.alike(0, 0, 0), -1);
        due("reach", x.reach(0, 0, 0, 100, -1, 0), -1);
        due("fits by none", x.fits(0, -1, 0), 1);
        due("fits by one", x.fits(1, -1, 0), 0);
        due("fits by three", x.fits(3, -1, 0), 0);
        due("mix", x.mix(1, 0, 0), -1);
        due("drawn", x.drawn(0, 0), -1);
        due("status", x.status(), 0);
        // these ask nothing of what stands
        due("both", x.both(2, 1, 1, 1), 3);
        due("rounds", x.rounds(2, 1, 34), 1);
        due("cask", x.cask(2, 1, 1, 1), 2);
        due("guests", x.guests(2, 1, 51), 1);
        due("rinse", x.rinse(1, 1, 1, 1), 2);
        due("cards", x.cards(1, 1, 1, 1, 1), 2);
        due("asking changes nothing", x.status(), 0);
    }

    private static void newObjectCalled() {
        due("fill", new WineSpoon().fill(0, 0, 1), -2);
        due("spoon", new WineSpoon().spoon(0, 1, 1), -2);
        due("lick", new WineSpoon().lick(0, 1), -2);
        due("empty", new WineSpoon().empty(0), -2);
        due("end", new WineSpoon().end(0), 0);
        due("row", new WineSpoon().row(), -6);
        due("evening", new WineSpoon().evening(), -6);
        due("wash", new WineSpoon().wash(), 0);
        due("tasting", new WineSpoon().tasting(0, 0, 0), -2);
        due("drink", new WineSpoon().drink(0), -2);
        due("night", new WineSpoon().night(0, 1), 0);
        due("image", new WineSpoon().image(0), 0);
        due("back", new WineSpoon().back(0), -2);
    }

    private static void spoonsWithoutGlasses() {
        WineSpoon x = new WineSpoon();
        for (int spoons = 1; spoons <= 3; spoons++) {
            x.size(spoons);
            due("night", x.night(7, 20), 0);
            due("status of it", x.status(), 0);
            due("drawn", x.drawn(0, 0), -1);
            due("fits by none", x.fits(0, -1, 0), 1);
            due("fits by one", x.fits(1, -1, 0), 0);
            due("fits by three", x.fits(3, -1, 0), 0);
            due("reach", x.reach(0, 0, 50, 100, -1, 0), -1);
        }
    }

    private static void glassesWithoutSpoons() {
        WineSpoon x = new WineSpoon();
        for (int g = 0; g < 6; g++) {
            x.glass(10);
            x.fill(g, 1, 5);
            due("night", x.night(7, 20), 0);
            due("status of it", x.status(), 0);
            due("drawn", x.drawn(g, 1), 100);
            due("drawn of the next", x.drawn(g + 1, 1), -1);
            due("fits by none", x.fits(0, -1, 0), 1);
            due("fits by one", x.fits(1, -1, 0), 0);
            due("reach as it is", x.reach(g, 1, 100, 0, -1, 0), 0);
            due("reach by moves", x.reach(g, 1, 50, 0, -1, 0), -1);
        }
    }

    private static void glasses() {
        WineSpoon x = new WineSpoon();
        for (int g = 0; g < 6; g++) {
            due("glasses so far", x.count(0), g);
            due("glass", x.glass(g + 1), g);
        }
        due("six", x.count(0), 6);
        due("a seventh", x.glass(60), -5);
        due("still six", x.count(0), 6);
        for (int g = 0; g < 6; g++) {
            due("size of " + g, x.of(g, 0), g + 1);
            due("none in " + g, x.of(g, 1), 0);
        }
        x.empty(5);
        due("an emptied glass is there still", x.glass(60), -5);
    }

    private static void spoons() {
        WineSpoon x = new WineSpoon();
        for (int k = 0; k < 3; k++) {
            due("spoons so far", x.count(1), k);
            due("its size is not told yet", x.count(10 + k), -1);
            due("spoon", x.size(20 + k), k);
            due("its size", x.count(10 + k), 20 + k);
        }
        due("a fourth", x.size(1), -5);
        due("three", x.count(1), 3);
        due("the sizes are as they were", x.count(10) * 10_000 + x.count(11) * 100 + x.count(12), 202_122);
        due("washed", x.wash(), 3);
        due("no size", x.count(10), -1);
        due("room again", x.size(60), 0);
        due("one size", x.count(10), 60);
        due("no second one", x.count(11), -1);
    }

    private static void tastings() {
        WineSpoon x = new WineSpoon();
        x.glass(10);
        for (int k = 1; k <= 6; k++) {
            due("tasting", x.tasting(0, 0, 0), k);
            due("so many", x.count(2), k);
        }
        due("a seventh", x.tasting(0, 0, 0), -5);
        due("a seventh that would not fit", x.tasting(0, 0, 100), -5);
        due("the six fit still", x.fits(0, -1, 0), 1);
        due("washed", x.wash(), 6);
        due("room again", x.tasting(0, 0, 100), 1);
        due("it does not fit", x.fits(0, -1, 0), 0);
    }

    private static void wines() {
        WineSpoon x = new WineSpoon();
        for (int k = 0; k < 6; k++) {
            due("wine", x.wine(10 * k, k, 20), k);
            due("so many", x.count(3), k + 1);
        }
        due("a seventh", x.wine(60, 0, 20), -5);
        due("it is not there", x.mix(1, 60, 0), -1);
        due("one goes", x.drink(0), 5);
        due("room again", x.wine(60, 7, 20), 5);
        due("it is there", x.mix(1, 60, 0), 7);
        due("a seventh again", x.wine(60, 0, 20), -5);
        // all six are asked: the least and the most of each
        due("all of the last", x.mix(20, 60, 6), 20);
        due("all of the first", x.mix(20, 10, 1), 20);
    }

    private static void tape() {
        WineSpoon x = new WineSpoon();
        for (int k = 1; k <= 20; k++) {
            due("feed", x.feed(0x20202020, 0x20202020, 0x20202020, 0x20202020, 0x20202020), 20 * k);
            due("bytes", x.count(4), 20 * k);
        }
        due("one feed more", x.feed(0, 0, 0, 0, 0), -1);
        due("400 still", x.count(4), 400);
        due("end of all", x.end(400), 400);
        due("401", x.end(401), -1);
        due("399", x.end(399), 399);
        due("not 400 any more", x.end(400), -1);
        due("no room for twenty", x.feed(0, 0, 0, 0, 0), -1);
        due("none", x.end(0), 0);
        due("room again", x.feed(0, 0, 0, 0, 0), 20);
        due("none of what was", x.end(21), -1);
    }

    private static void tapeOfAnEvening() {
        WineSpoon x = new WineSpoon();
        x.glass(60);
        String text = "fill 0 1 to 0".concat(" ".repeat(386)).concat(";");
        due("its length", text.length(), 400);
        due("a whole tape with a fault at its end", Check.evening(x, text), -6);
        due("its place", x.fault(), 400);
        due("room for a whole tape again", Check.evening(x, text.replace(';', ' ')), 1);
        due("none left", x.count(4), 0);
    }

    /** Twenty bytes of five numbers, the highest of each first, whatever their signs. */
    private static void tapeOfBytes() {
        WineSpoon x = new WineSpoon();
        x.glass(60);
        due("feed", x.feed(0x66696c6c, 0x20322035, 0x20746f20, 0x3020ffff, -1), 20);
        due("without what is above 127", x.end(14), 14);
        due("fill 2 5 to 0", x.evening(), 1);
        due("stuff 2", x.part(0, 2), 5);
        x.feed(0x66696c6c, 0x20322035, 0x20746f20, 0x3020ffff, -1);
        due("with one byte of 255", x.end(15), 15);
        due("can't be", x.evening(), -6);
        due("its place", x.fault(), 14);
        x.feed(0x80ffffff, 0, 0, 0, 0);
        due("128 is no glass", x.row(), -6);
        x.feed(0, 0, 0, 0, 0);
        x.end(1);
        due("behind what is there", x.feed(0x07060504, 0, 0, 0, 0), 21);
        due("a row of it", x.row(), 4);
        due("7 of stuff 0", x.part(0, 0), 7);
        due("4 of stuff 3", x.part(0, 3), 4);
        due("the rest of it", x.spilt(), 16);
    }

    private static void washed() {
        WineSpoon x = new WineSpoon();
        x.glass(10);
        x.wine(1, 1, 1);
        for (int k = 0; k < 6; k++) {
            x.tasting(0, 0, 0);
            x.size(k + 1);
        }
        due("status of a fourth spoon", x.status(), -5);
        due("of both", x.wash(), 9);
        due("status is not wash's", x.status(), -5);
        due("glasses stay", x.count(0), 1);
        due("wines stay", x.count(3), 1);
        due("of none", x.wash(), 0);
    }
}
