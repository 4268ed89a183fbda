/**
 * Of each number that a call takes: the smallest and the largest one that is taken, and the next one on either side.
 * What a call answers to them is due elsewhere; here it is only due that it is not refused (or not NONE).
 */
public final class NumbersTest {
    private static final int LEAST = Integer.MIN_VALUE;
    private static final int MOST = Integer.MAX_VALUE;

    /** A call on an object made for it, with one number left open. */
    private interface Call {
        long with(int number);
    }

    public static void main(String[] args) {
        glasses();
        moves();
        tape();
        bothAndRounds();
        spoons();
        reach();
        tastings();
        casks();
        rinsing();
        wines();
        mixes();
        cards();
        nights();
        imagesAndCounts();
        Check.close();
    }

    /** Taken from the least to the most, refused outside. */
    private static void range(String name, int least, int most, int refusal, Call call) {
        taken(name, call, least, most);
        refused(name, refusal, call, least - 1, most + 1, LEAST, MOST);
    }

    private static void taken(String name, Call call, int... numbers) {
        for (int number : numbers) {
            long answer = call.with(number);
            Check.isTrue(name + " " + number + " is taken, answered " + answer, answer >= 0);
        }
    }

    private static void refused(String name, int refusal, Call call, int... numbers) {
        for (int number : numbers) {
            Check.due(name + " " + number, call.with(number), refusal);
        }
    }

    /** Six glasses of 60, as full as told, of stuff 0. */
    private static WineSpoon six(int full) {
        WineSpoon x = new WineSpoon();
        for (int g = 0; g < 6; g++) {
            x.glass(60);
            if (full > 0) {
                x.fill(g, 0, full);
            }
        }
        return x;
    }

    // Promises 2 to 6, 10, 18
    private static void glasses() {
        range("glass: size", 1, 60, -1, n -> new WineSpoon().glass(n));
        range("of: glass", 0, 5, -1, n -> six(5).of(n, 0));
        range("of: glass, full", 0, 5, -1, n -> six(5).of(n, 1));
        range("of: what", 0, 1, -1, n -> six(5).of(0, n));
        range("part: glass", 0, 5, -1, n -> six(5).part(n, 0));
        range("part: stuff", 0, 3, -1, n -> six(5).part(0, n));
        range("taste: glass", 0, 5, -1, n -> six(5).taste(n, 0));
        range("taste: stuff", 0, 3, -1, n -> six(5).taste(0, n));
        range("empty: glass", 0, 5, -2, n -> six(5).empty(n));
        range("alike: one", 0, 5, -1, n -> six(5).alike(n, 0, 0));
        range("alike: other", 0, 5, -1, n -> six(5).alike(0, n, 0));
        range("alike: stuff", 0, 3, -1, n -> six(5).alike(0, 1, n));
        // a glass is there as soon as it has been made, and not ahead of that
        WineSpoon x = new WineSpoon();
        for (int g = 0; g < 6; g++) {
            Check.due("no glass " + g + " yet", x.of(g, 0), -1);
            Check.due("glass " + g, x.glass(10 + g), g);
            Check.due("size of glass " + g, x.of(g, 0), 10 + g);
        }
    }

    // Promises 7, 8, 9
    private static void moves() {
        range("fill: glass", 0, 5, -2, n -> six(0).fill(n, 0, 1));
        range("fill: stuff", 0, 3, -1, n -> six(0).fill(0, n, 1));
        range("fill: amount", 1, 60, -1, n -> six(0).fill(0, 0, n));
        taken("spoon: from", n -> six(5).spoon(n, 3, 1), 0, 5);
        refused("spoon: from", -2, n -> six(5).spoon(n, 3, 1), -1, 6, LEAST, MOST);
        taken("spoon: to", n -> six(5).spoon(3, n, 1), 0, 5);
        refused("spoon: to", -2, n -> six(5).spoon(3, n, 1), -1, 6, LEAST, MOST);
        range("spoon: amount", 1, 60, -1, NumbersTest::spooned);
        range("lick: from", 0, 5, -2, n -> six(5).lick(n, 1));
        range("lick: amount", 1, 60, -1, n -> six(60).lick(0, n));
    }

    private static long spooned(int amount) {
        WineSpoon x = six(0);
        x.fill(0, 0, 60);
        return x.spoon(0, 1, amount);
    }

    // Promises 11, 12
    private static void tape() {
        taken("feed: any number", n -> new WineSpoon().feed(n, n, n, n, n), LEAST, -1, 0, 1, MOST);
        range("end of twenty", 0, 20, -1, n -> fed(1).end(n));
        range("end of four hundred", 0, 400, -1, n -> fed(20).end(n));
        range("end of an empty one", 0, 0, -1, n -> new WineSpoon().end(n));
        // twenty more come to at most 400
        taken("feed behind so many", NumbersTest::fedBehind, 0, 1, 379, 380);
        refused("feed behind so many", -1, NumbersTest::fedBehind, 381, 399, 400);
    }

    private static WineSpoon fed(int times) {
        WineSpoon x = new WineSpoon();
        for (int k = 0; k < times; k++) {
            x.feed(0, 0, 0, 0, 0);
        }
        return x;
    }

    private static long fedBehind(int bytes) {
        WineSpoon x = fed(20);
        x.end(bytes);
        return x.feed(0, 0, 0, 0, 0);
    }

    // Promises 19, 20
    private static void bothAndRounds() {
        WineSpoon x = new WineSpoon();
        range("both: full, a spoon of 1", 2, 60, -1, n -> x.both(n, 1, 1, 0));
        range("both: spoon below 60", 1, 59, -1, n -> x.both(60, n, 1, 0));
        range("both: spoon below 2", 1, 1, -1, n -> x.both(2, n, 1, 0));
        refused("both: no spoon is below 1", -1, n -> x.both(1, n, 1, 0), 0, 1, 2);
        range("both: rounds", 0, 6, -1, n -> x.both(9, 2, n, 0));
        range("both: what", 0, 1, -1, n -> x.both(9, 2, 1, n));
        range("rounds: full, a spoon of 1", 2, 60, -1, n -> x.rounds(n, 1, 100));
        range("rounds: spoon below 60", 1, 59, -1, n -> x.rounds(60, n, 100));
        refused("rounds: no spoon is below 1", -1, n -> x.rounds(1, n, 100), 0, 1, 2);
        // 0 hundredths can be told, but are never reached
        taken("rounds: hundredths", n -> x.rounds(60, 59, n), 1, 100);
        refused("rounds: hundredths", -1, n -> x.rounds(60, 59, n), -1, 0, 101, LEAST, MOST);
    }

    // Promises 21, 22
    private static void spoons() {
        range("size", 1, 60, -1, n -> new WineSpoon().size(n));
    }

    /** Glasses of stuff 0 and of stuff 1, five in each, a third one that is empty, a spoon of 5 and one of 1. */
    private static WineSpoon searched() {
        WineSpoon x = new WineSpoon();
        for (int g = 0; g < 3; g++) {
            x.glass(10);
        }
        x.fill(0, 0, 5);
        x.fill(1, 1, 5);
        x.size(5);
        x.size(1);
        return x;
    }

    // Promise 23
    private static void reach() {
        range("reach: glass", 0, 5, -1, n -> six(5).reach(n, 0, 100, 0, -1, 0));
        range("reach: stuff", 0, 3, -1, n -> six(5).reach(0, n, 50, 50, -1, 0));
        range("reach: strength", 0, 100, -1, n -> searched().reach(0, 0, n, 100, -1, 0));
        range("reach: within", 0, 100, -1, n -> searched().reach(0, 0, 100, n, -1, 0));
        // two moves lead to a half in the empty one
        Check.due("reach: two moves", searched().reach(2, 0, 50, 0, -1, 0), 2);
        taken("reach: i", n -> searched().reach(2, 0, 50, 0, n, 1), -1, 0, 1);
        refused("reach: i", -1, n -> searched().reach(2, 0, 50, 0, n, 1), -2, 2, 3, LEAST, MOST);
        range("reach: what", 0, 2, -1, n -> searched().reach(2, 0, 50, 0, 0, n));
        // by no move there is no i-th one
        Check.due("reach: no moves", searched().reach(0, 0, 100, 0, -1, 0), 0);
        refused("reach: i of none", -1, n -> searched().reach(0, 0, 100, 0, n, 0), -2, 0, 1, LEAST, MOST);
    }

    // Promises 24, 25
    private static void tastings() {
        range("tasting: glass", 0, 5, -2, n -> six(5).tasting(n, 0, 0));
        range("tasting: stuff", 0, 3, -1, n -> six(5).tasting(0, n, 0));
        range("tasting: taste", 0, 100, -1, n -> six(5).tasting(0, 0, n));
        range("fits: moves", 0, 3, -1, n -> searched().fits(n, -1, 0));
        for (int moves = 1; moves <= 3; moves++) {
            int n = moves;
            taken("fits: i of " + n, i -> searched().fits(n, i, 0), -1, 0, n - 1);
            refused("fits: i of " + n, -1, i -> searched().fits(n, i, 0), -2, n, n + 1, LEAST, MOST);
            range("fits: what of " + n, 0, 2, -1, what -> searched().fits(n, n - 1, what));
        }
        refused("fits: i of none", -1, i -> searched().fits(0, i, 0), -2, 0, 1, LEAST, MOST);
    }

    // Promises 26, 27
    private static void casks() {
        WineSpoon x = new WineSpoon();
        range("cask: size", 1, 60, -1, n -> x.cask(n, 1, 1, 0));
        range("cask: drawn of 60", 0, 60, -1, n -> x.cask(60, n, 1, 0));
        range("cask: drawn of 1", 0, 1, -1, n -> x.cask(1, n, 1, 0));
        range("cask: guests", 0, 6, -1, n -> x.cask(9, 2, n, 0));
        range("cask: what", 0, 1, -1, n -> x.cask(9, 2, 1, n));
        range("guests: size", 1, 60, -1, n -> x.guests(n, 1, 100));
        taken("guests: drawn", n -> x.guests(60, n, 100), 1, 60);
        // if none is drawn, less than all is never left
        refused("guests: drawn", -1, n -> x.guests(60, n, 100), -1, 0, 61, LEAST, MOST);
        taken("guests: hundredths", n -> x.guests(9, 9, n), 1, 100);
        refused("guests: hundredths", -1, n -> x.guests(9, 9, n), -1, 0, 101, LEAST, MOST);
    }

    // Promise 28
    private static void rinsing() {
        WineSpoon x = new WineSpoon();
        range("rinse: clings", 1, 9, -1, n -> x.rinse(n, 9, 2, 0));
        range("rinse: water", 0, 60, -1, n -> x.rinse(3, n, 2, 0));
        range("rinse: goes", 1, 6, -1, n -> x.rinse(3, 9, n, 0));
        for (int goes = 1; goes <= 6; goes++) {
            int n = goes;
            range("rinse: what of " + n + " goes", 0, 1 + n, -1, what -> x.rinse(3, 9, n, what));
        }
    }

    private static WineSpoon cellar(int wines) {
        WineSpoon x = new WineSpoon();
        for (int k = 0; k < wines; k++) {
            x.wine(50, 3, 20);
        }
        return x;
    }

    // Promises 29, 30
    private static void wines() {
        range("wine: strength", 0, 100, -1, n -> new WineSpoon().wine(n, 0, 0));
        range("wine: price", 0, 99, -1, n -> new WineSpoon().wine(0, n, 0));
        range("wine: amount", 0, 20, -1, n -> new WineSpoon().wine(0, 0, n));
        refused("drink of none", -2, n -> new WineSpoon().drink(n), -1, 0, 1, LEAST, MOST);
        for (int wines = 1; wines <= 6; wines++) {
            int all = wines;
            range("drink of " + all, 0, all - 1, -2, n -> cellar(all).drink(n));
        }
    }

    // Promise 31
    private static void mixes() {
        range("mix: amount", 1, 20, -1, n -> cellar(1).mix(n, 50, 0));
        range("mix: strength", 0, 100, -1, NumbersTest::mixedOfTwo);
        for (int wines = 1; wines <= 6; wines++) {
            int all = wines;
            range("mix: what of " + all, 0, all, -1, n -> cellar(all).mix(2, 50, n));
        }
        refused("mix: what of none", -1, n -> cellar(0).mix(2, 50, n), -1, 0, 1, LEAST, MOST);
    }

    private static long mixedOfTwo(int strength) {
        WineSpoon x = new WineSpoon();
        x.wine(0, 1, 20);
        x.wine(100, 1, 20);
        return x.mix(20, strength, 0);
    }

    // Promise 32
    private static void cards() {
        WineSpoon x = new WineSpoon();
        range("cards: red", 0, 20, -1, n -> x.cards(n, 4, 0, 0, 0));
        range("cards: black", 0, 20, -1, n -> x.cards(4, n, 2, 1, 0));
        range("cards: moved of 20", 0, 20, -1, n -> x.cards(20, 20, n, 0, 0));
        range("cards: moved of 0", 0, 0, -1, n -> x.cards(0, 20, n, 0, 0));
        range("cards: red ones of 3", 0, 3, -1, n -> x.cards(5, 5, 3, n, 0));
        range("cards: red ones of 0", 0, 0, -1, n -> x.cards(5, 5, 0, n, 0));
        range("cards: what", 0, 1, -1, n -> x.cards(5, 5, 3, 1, n));
    }

    // Promises 33, 34
    private static void nights() {
        range("night: seed", 0, 1_000_000, -1, n -> searched().night(n, 20));
        range("night: moves", 1, 20, -1, n -> searched().night(7, n));
        range("drawn: glass", 0, 5, -1, n -> behindNight().drawn(n, 0));
        range("drawn: stuff", 0, 3, -1, n -> behindNight().drawn(0, n));
        refused("drawn ahead of any night", -1, n -> six(5).drawn(n, 0), -1, 0, 5, 6);
    }

    private static WineSpoon behindNight() {
        WineSpoon x = six(5);
        x.night(7, 1);
        return x;
    }

    // Promises 35 to 37
    private static void imagesAndCounts() {
        range("image", 0, 1, -1, n -> six(5).image(n));
        range("back", 0, 1, -1, n -> kept().back(n));
        refused("back to none", -2, n -> six(5).back(n), 0, 1);
        refused("back to none that can be", -1, n -> six(5).back(n), -1, 2, LEAST, MOST);
        range("count without spoons", 0, 9, -1, n -> new WineSpoon().count(n));
        for (int spoons = 1; spoons <= 3; spoons++) {
            int all = spoons;
            range("count with " + all + " spoons", 0, 9 + all, -1, n -> spooned(new WineSpoon(), all).count(n));
        }
    }

    private static WineSpoon kept() {
        WineSpoon x = six(5);
        x.image(0);
        x.image(1);
        return x;
    }

    private static WineSpoon spooned(WineSpoon x, int spoons) {
        for (int k = 0; k < spoons; k++) {
            x.size(4);
        }
        return x;
    }
}
