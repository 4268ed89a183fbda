/**
 * Refused calls: by what they are refused where several reasons hold at once, that status() and count() tell of it, and
 * that all is as it was behind them (but the tape behind row() and evening(), which is empty then).
 */
public final class RefusedTest {
    private static final int LEAST = Integer.MIN_VALUE;
    private static final int MOST = Integer.MAX_VALUE;
    private static final long MOST_LOWER = 100_000_000_000_000L;
    private static final String LEFT_ON_TAPE = "lick 1 from 0; fill 3 done + 1 to 1";

    private interface Call {
        long on(WineSpoon x);
    }

    private interface Table {
        WineSpoon make();
    }

    public static void main(String[] args) {
        badNumbersComeFirst();
        noSuchThingComesNext();
        whatCannotBe();
        whatHasNoRoom();
        whatCannotBeHasNoRoomEither();
        textsAndRows();
        eveningsAreReadWhole();
        questionsAreNotRefused();
        latestCallTells();
        Check.close();
    }

    /** Some of everything: fractions, a full glass and an empty one, and a latest night, fault, stop, spilt bytes. */
    private static WineSpoon someOfAll() {
        WineSpoon x = new WineSpoon();
        x.glass(10);
        x.glass(12);
        x.glass(4);
        x.fill(0, 0, 6);
        x.fill(1, 1, 6);
        x.fill(2, 2, 4);
        x.spoon(0, 1, 2);
        x.spoon(1, 0, 3);
        x.size(1);
        x.size(2);
        x.tasting(2, 2, 100);
        x.wine(0, 1, 5);
        x.wine(100, 7, 5);
        x.night(7, 3);
        x.image(0);
        x.glass(60);
        x.image(1);
        Check.evening(x, "lick 1 from 0; lick 60 from 0");
        Check.tell(x, "\3\0");
        x.row();
        Check.tell(x, LEFT_ON_TAPE);
        return x;
    }

    /** As many of everything as there can be. */
    private static WineSpoon fullOfAll() {
        WineSpoon x = new WineSpoon();
        for (int k = 0; k < 6; k++) {
            x.glass(10 + k);
            x.fill(k, k % 4, 10);
            x.tasting(k, 0, k % 4 == 0 ? 100 : 0);
            x.wine(20 * k, 9 - k, 3);
        }
        x.size(1);
        x.size(2);
        x.size(3);
        Check.tell(x, LEFT_ON_TAPE);
        return x;
    }

    /** A lower number that has no room for another fraction, in glass 0, which has ten; glass 1 is full. */
    private static WineSpoon fullOfNumbers() {
        WineSpoon x = new WineSpoon();
        x.glass(20);
        x.glass(5);
        x.glass(20);
        x.fill(0, 0, 9);
        for (int k = 0; k < 14; k++) {
            x.fill(0, 1, 1);
            x.lick(0, 1);
        }
        x.fill(0, 1, 1);
        x.fill(1, 2, 5);
        Check.tell(x, LEFT_ON_TAPE);
        Check.due("the largest lower number", x.lower(), MOST_LOWER);
        return x;
    }

    private static final int[] PLACES = {-1, -2, -3, -5, -6};

    /** Refused by this, told by status() and the one count, and all is as it was. */
    private static void refused(String name, int by, Table table, Call call) {
        WineSpoon x = table.make();
        long[] counts = counts(x);
        Look ahead = Look.at(x);
        Check.due(name, call.on(x), by);
        Check.due("status behind " + name, x.status(), by);
        long[] now = counts(x);
        for (int k = 0; k < PLACES.length; k++) {
            Check.due("refused by " + PLACES[k] + " behind " + name, now[k] - counts[k], PLACES[k] == by ? 1 : 0);
        }
        ahead.same(name, Look.at(x));
        Check.due("what is left on the tape behind " + name, x.evening(), table.make().evening());
        // images that were not kept are not kept now, those that were can be gone back to
        for (int k = 0; k < 2; k++) {
            WineSpoon other = table.make();
            Check.due("image " + k + " behind " + name, x.back(k), other.back(k));
            Check.due("glasses of image " + k + " behind " + name, x.count(0), other.count(0));
        }
    }

    private static long[] counts(WineSpoon x) {
        long[] counts = new long[PLACES.length];
        for (int k = 0; k < PLACES.length; k++) {
            counts[k] = x.count(5 + k);
        }
        return counts;
    }

    private static void everywhere(String name, int by, Call call) {
        refused(name + ", some of all", by, RefusedTest::someOfAll, call);
        refused(name + ", full of all", by, RefusedTest::fullOfAll, call);
        refused(name + ", full of numbers", by, RefusedTest::fullOfNumbers, call);
    }

    // -1: whatever else is wrong, and whatever stands
    private static void badNumbersComeFirst() {
        everywhere("glass 0", -1, x -> x.glass(0));
        everywhere("glass 61", -1, x -> x.glass(61));
        everywhere("fill stuff 4", -1, x -> x.fill(0, 4, 1));
        everywhere("fill stuff 4 of no glass", -1, x -> x.fill(6, 4, 1));
        everywhere("fill amount 0 of no glass", -1, x -> x.fill(6, 0, 0));
        everywhere("fill amount 61 without room", -1, x -> x.fill(1, 0, 61));
        everywhere("fill stuff -1 without room", -1, x -> x.fill(1, -1, 60));
        everywhere("fill all wrong", -1, x -> x.fill(MOST, LEAST, MOST));
        everywhere("spoon 0", -1, x -> x.spoon(0, 1, 0));
        everywhere("spoon 0 from none", -1, x -> x.spoon(6, 0, 0));
        everywhere("spoon 61 to none", -1, x -> x.spoon(0, 6, 61));
        everywhere("spoon 61, more than there is", -1, x -> x.spoon(0, 2, 61));
        everywhere("spoon 0 to the same", -1, x -> x.spoon(0, 0, 0));
        everywhere("spoon all wrong", -1, x -> x.spoon(LEAST, MOST, LEAST));
        everywhere("lick 0", -1, x -> x.lick(0, 0));
        everywhere("lick 0 of none", -1, x -> x.lick(-1, 0));
        everywhere("lick 61, more than there is", -1, x -> x.lick(0, 61));
        everywhere("size 0", -1, x -> x.size(0));
        everywhere("size 61", -1, x -> x.size(61));
        everywhere("tasting stuff 4", -1, x -> x.tasting(0, 4, 0));
        everywhere("tasting stuff 4 of no glass", -1, x -> x.tasting(6, 4, 0));
        everywhere("tasting 101 of no glass", -1, x -> x.tasting(6, 0, 101));
        everywhere("tasting -1", -1, x -> x.tasting(0, 0, -1));
        everywhere("wine strength 101", -1, x -> x.wine(101, 0, 0));
        everywhere("wine price 100", -1, x -> x.wine(0, 100, 0));
        everywhere("wine amount 21", -1, x -> x.wine(0, 0, 21));
        everywhere("wine amount -1", -1, x -> x.wine(0, 0, -1));
        everywhere("night seed 1,000,001", -1, x -> x.night(1_000_001, 1));
        everywhere("night of none", -1, x -> x.night(1, 0));
        everywhere("night of 21", -1, x -> x.night(1, 21));
        everywhere("image 2", -1, x -> x.image(2));
        everywhere("image -1", -1, x -> x.image(-1));
        everywhere("back 2", -1, x -> x.back(2));
        everywhere("back -1", -1, x -> x.back(-1));
    }

    // -2: whatever else can't be
    private static void noSuchThingComesNext() {
        everywhere("fill glass 6", -2, x -> x.fill(6, 0, 1));
        everywhere("fill glass -1 with the most", -2, x -> x.fill(-1, 3, 60));
        everywhere("spoon from 6", -2, x -> x.spoon(6, 0, 1));
        everywhere("spoon to 6", -2, x -> x.spoon(0, 6, 1));
        everywhere("spoon more than there is to none", -2, x -> x.spoon(0, 6, 60));
        everywhere("spoon from none to one without room", -2, x -> x.spoon(-1, 2, 60));
        everywhere("spoon from none to the same", -2, x -> x.spoon(6, 6, 1));
        everywhere("lick 6", -2, x -> x.lick(6, 1));
        everywhere("lick -1, the most", -2, x -> x.lick(-1, 60));
        everywhere("empty 6", -2, x -> x.empty(6));
        everywhere("empty -1", -2, x -> x.empty(-1));
        everywhere("tasting of glass 6", -2, x -> x.tasting(6, 0, 0));
        everywhere("tasting of glass -1", -2, x -> x.tasting(-1, 3, 100));
        everywhere("drink 6", -2, x -> x.drink(6));
        everywhere("drink -1", -2, x -> x.drink(-1));
        refused("drink of none", -2, RefusedTest::fullOfNumbers, x -> x.drink(0));
        refused("back to an image that was not kept", -2, RefusedTest::fullOfAll, x -> x.back(0));
        refused("back to the other that was not kept", -2, RefusedTest::fullOfNumbers, x -> x.back(1));
    }

    // -3
    private static void whatCannotBe() {
        refused("fill a full one", -3, RefusedTest::someOfAll, x -> x.fill(2, 0, 1));
        refused("fill one too many", -3, RefusedTest::someOfAll, x -> x.fill(0, 0, 4));
        refused("spoon to the same", -3, RefusedTest::someOfAll, x -> x.spoon(0, 0, 1));
        refused("spoon an empty one to the same", -3, RefusedTest::someOfAll, x -> x.spoon(3, 3, 60));
        refused("spoon one too many", -3, RefusedTest::someOfAll, x -> x.spoon(0, 3, 8));
        refused("spoon into a full one", -3, RefusedTest::someOfAll, x -> x.spoon(0, 2, 1));
        refused("spoon more than there is room", -3, RefusedTest::someOfAll, x -> x.spoon(2, 0, 4));
        refused("spoon from an empty one", -3, RefusedTest::someOfAll, x -> x.spoon(3, 0, 1));
        refused("lick one too many", -3, RefusedTest::someOfAll, x -> x.lick(0, 8));
        refused("lick an empty one", -3, RefusedTest::someOfAll, x -> x.lick(3, 1));
        refused("lick the most", -3, RefusedTest::fullOfAll, x -> x.lick(5, 60));
    }

    // -5
    private static void whatHasNoRoom() {
        refused("a seventh glass", -5, RefusedTest::fullOfAll, x -> x.glass(1));
        refused("a fourth spoon", -5, RefusedTest::fullOfAll, x -> x.size(60));
        refused("a seventh tasting", -5, RefusedTest::fullOfAll, x -> x.tasting(5, 3, 100));
        refused("a seventh wine", -5, RefusedTest::fullOfAll, x -> x.wine(100, 99, 20));
        refused("a lick without room", -5, RefusedTest::fullOfNumbers, x -> x.lick(0, 1));
        refused("a spoonful without room", -5, RefusedTest::fullOfNumbers, x -> x.spoon(0, 2, 1));
    }

    // -3 is ahead of -5: these would have no room in numbers either, could they be
    private static void whatCannotBeHasNoRoomEither() {
        refused("to the same", -3, RefusedTest::fullOfNumbers, x -> x.spoon(0, 0, 1));
        refused("into a full one", -3, RefusedTest::fullOfNumbers, x -> x.spoon(0, 1, 1));
        refused("more than there is", -3, RefusedTest::fullOfNumbers, x -> x.spoon(0, 2, 11));
        refused("lick more than there is", -3, RefusedTest::fullOfNumbers, x -> x.lick(0, 11));
    }

    /** Refused by this: the tape is empty then, fault() and stopped() are as told, and all else is as it was. */
    private static void textRefused(String text, int by, int fault, int stopped, Table table) {
        WineSpoon x = table.make();
        WineSpoon y = table.make();
        failAlike(y, fault, stopped);
        Look due = Look.at(y);
        long[] counts = counts(x);
        Check.due(text, Check.evening(x, text), by);
        Check.due("status behind " + text, x.status(), by);
        long[] now = counts(x);
        for (int k = 0; k < PLACES.length; k++) {
            Check.due("refused by " + PLACES[k] + " behind " + text, now[k] - counts[k], PLACES[k] == by ? 1 : 0);
        }
        Check.due("fault of " + text, x.fault(), fault);
        Check.due("stopped of " + text, x.stopped(), stopped);
        Check.due("bytes behind " + text, x.count(4), 0);
        due.same(text, Look.at(x));
    }

    /** An evening that does nothing and has this fault, or stops at this clause. */
    private static void failAlike(WineSpoon x, int fault, int stopped) {
        String text = fault >= 0 ? " ".repeat(fault) + "!" : "lick 1 from 5 if 1=2;".repeat(stopped) + "lick 1 from 5";
        Check.evening(x, text);
    }

    // -6, and what an evening is refused by
    private static void textsAndRows() {
        Table some = RefusedTest::someOfAll;
        textRefused("lick 1 from 0; lick 1 from 0 nor", -6, 29, -1, some);
        textRefused("lick 1 from 0; lick 60 from 0", -3, -1, 1, some);
        textRefused("fill 0 1 to 5", -3, -1, 0, some);
        textRefused("lick 1 from 0; spoon 1 from 0 to 1; spoon 2 from 1 to 1", -3, -1, 2, some);
        Table numbers = RefusedTest::fullOfNumbers;
        textRefused("fill 3 1 to 2; lick 1 from 0", -5, -1, 1, numbers);
        textRefused("fill 3 1 to 2; spoon 1 from 0 to 2", -5, -1, 1, numbers);
        // the first clause that can't be ends it, whatever the later ones would be refused by
        textRefused("lick 1 from 0; lick 60 from 0", -5, -1, 0, numbers);
        textRefused("lick 11 from 0; lick 1 from 0", -3, -1, 0, numbers);
        // of one move -3 is ahead of -5
        textRefused("spoon 1 from 0 to 0", -3, -1, 0, numbers);
        textRefused("spoon 1 from 0 to 1", -3, -1, 0, numbers);
        rowRefused("an empty tape", "");
        rowRefused("no such glass", "\6\1");
        rowRefused("no such glass, nothing behind it", "\4");
        rowRefused("a glass far above", "\u00ff\1\2\3");
    }

    private static void rowRefused(String name, String bytes) {
        WineSpoon x = someOfAll();
        WineSpoon y = someOfAll();
        y.end(0);
        Look ahead = Look.at(y);
        long before = x.count(9);
        Check.tell(x, bytes);
        Check.due("row, " + name, x.row(), -6);
        Check.due("status, " + name, x.status(), -6);
        Check.due("refused by -6, " + name, x.count(9) - before, 1);
        // spilt() tells still of the row that was not refused
        Check.due("spilt, " + name, x.spilt(), 1);
        ahead.same("row, " + name, Look.at(x));
    }

    // a text with a fault is not run at all, so nothing else can refuse it
    private static void eveningsAreReadWhole() {
        textRefused("lick 60 from 0; lick 1 from 9", -6, 28, -1, RefusedTest::someOfAll);
        textRefused("lick 1 from 0;", -6, 14, -1, RefusedTest::fullOfNumbers);
        textRefused("spoon 1 from 5 to 5; x", -6, 21, -1, RefusedTest::someOfAll);
    }

    // only the calls that status() names are refused; the others answer NONE, which is -1 as well
    private static void questionsAreNotRefused() {
        WineSpoon x = someOfAll();
        Check.due("a refused call ahead", x.drink(6), -2);
        long[] counts = counts(x);
        long sum = x.of(6, 0) + x.of(0, 2) + x.part(6, 0) + x.taste(0, 4) + x.end(401) + x.end(-1) + x.alike(0, 6, 0)
            + x.both(0, 0, 0, 0) + x.rounds(5, 5, 5) + x.reach(6, 0, 0, 0, -1, 0) + x.fits(4, -1, 0) + x.cask(0, 0, 0, 0)
            + x.guests(0, 0, 0) + x.rinse(0, 0, 0, 0) + x.mix(0, 0, 0) + x.cards(0, 0, 1, 0, 0) + x.drawn(6, 0) + x.count(13);
        Check.due("eighteen of them", sum, -18);
        for (int k = 0; k < 20; k++) {
            x.feed(0, 0, 0, 0, 0);
        }
        Check.due("feed beyond", x.feed(0, 0, 0, 0, 0), -1);
        x.wash();
        Check.due("status is still that of drink", x.status(), -2);
        long[] now = counts(x);
        for (int k = 0; k < PLACES.length; k++) {
            Check.due("refused by " + PLACES[k], now[k], counts[k]);
        }
    }

    /** Behind a call that is refused each call that is not makes the status 0. */
    private static void latestCallTells() {
        String[] names = {"glass", "fill", "spoon", "lick", "empty", "row", "evening", "size", "tasting", "wine", "drink",
            "night", "image", "back"};
        Call[] fine = {x -> x.glass(60), x -> x.fill(0, 0, 1), x -> x.spoon(0, 1, 1), x -> x.lick(0, 1), x -> x.empty(3),
            RefusedTest::fineRow, RefusedTest::fineEvening, x -> x.size(60), x -> x.tasting(0, 0, 0), x -> x.wine(0, 0, 0),
            x -> x.drink(1), x -> x.night(0, 1), x -> x.image(0), x -> x.back(1)};
        for (int k = 0; k < names.length; k++) {
            WineSpoon x = someOfAll();
            Check.due("a refused call ahead of " + names[k], x.empty(6), -2);
            Check.due("status of it", x.status(), -2);
            Check.isTrue(names[k] + " is not refused", fine[k].on(x) >= 0);
            Check.due("status of " + names[k], x.status(), 0);
            Check.due("refused by -2, ahead of " + names[k] + " too", x.count(6), 1);
        }
    }

    private static long fineRow(WineSpoon x) {
        Check.tell(x, "\0");
        return x.row();
    }

    private static long fineEvening(WineSpoon x) {
        return Check.evening(x, "lick 60 from 5 if 1 = 2");
    }
}
