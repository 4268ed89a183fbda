/** The common lower number: in lowest terms together, and no room for one above 100,000,000,000,000. */
public final class LowerTest {
    private static final long MOST_LOWER = 100_000_000_000_000L;
    /** Their product is the largest lower number itself. */
    private static final int[] JUST_ROOM = {50, 50, 50, 50, 50, 50, 50, 32, 4};
    /** Their product is 100,000,000,571,328: the smallest above it that is a product of numbers to 60. */
    private static final int[] JUST_NONE = {48, 36, 27, 39, 13, 13, 11, 17, 37, 47};

    public static void main(String[] args) {
        oneAtFirst();
        together();
        lowestBehindEachMove();
        wholeBehindEachMove();
        licksWithRoom();
        licksWithoutRoom();
        spoonsWithoutRoom();
        eveningsWithoutRoom();
        nightsWithoutRoom();
        rowsOfMovesWithoutRoom();
        roomInLowestTerms();
        fillingNeedsNoRoom();
        largestNumbers();
        Check.close();
    }

    private static void due(String call, long got, long want) {
        Check.due(call, got, want);
    }

    private static void oneAtFirst() {
        WineSpoon x = new WineSpoon();
        due("lower at first", x.lower(), 1);
        x.glass(60);
        due("lower of an empty glass", x.lower(), 1);
        x.fill(0, 0, 59);
        due("lower of whole amounts", x.lower(), 1);
        x.lick(0, 7);
        due("lower of one stuff alone", x.lower(), 1);
    }

    /** Glass 0 has halves, glass 1 thirds. */
    private static WineSpoon halvesAndThirds() {
        WineSpoon x = new WineSpoon();
        for (int g = 0; g < 3; g++) {
            x.glass(60);
        }
        x.fill(0, 0, 1);
        x.fill(0, 1, 1);
        x.lick(0, 1);
        x.fill(1, 2, 1);
        x.fill(1, 3, 2);
        x.lick(1, 1);
        return x;
    }

    private static void together() {
        WineSpoon x = halvesAndThirds();
        due("halves and thirds", x.lower(), 6);
        due("a half", x.part(0, 0), 3);
        due("two thirds", x.part(1, 2), 4);
        due("four thirds", x.part(1, 3), 8);
        due("none of it", x.part(1, 0), 0);
        due("a whole one fills in as six", x.fill(2, 0, 1), 1);
        due("six sixths", x.part(2, 0), 6);
        due("lower as ahead", x.lower(), 6);
        x.empty(1);
        due("halves alone", x.lower(), 2);
        due("a half of two", x.part(0, 1), 1);
        due("a whole of two", x.part(2, 0), 2);
        x.empty(0);
        due("whole ones alone", x.lower(), 1);
        due("one", x.part(2, 0), 1);
    }

    private static void lowestBehindEachMove() {
        WineSpoon x = halvesAndThirds();
        due("lick the thirds", x.lick(1, 2), 0);
        due("behind a lick", x.lower(), 2);
        x = halvesAndThirds();
        due("spoon what is a half away", x.spoon(0, 2, 1), 1);
        due("behind a spoonful that takes all along", x.lower(), 6);
        x = halvesAndThirds();
        due("an evening of it", Check.evening(x, "lick 2 from 1; fill 1 3 to 0"), 2);
        due("behind an evening", x.lower(), 2);
        due("a half and three", x.part(0, 1), 7);
        x = halvesAndThirds();
        Check.tell(x, "\2\3\0\2");
        due("a row", x.row(), 2);
        due("behind a row", x.lower(), 6);
        due("three wholes", x.part(2, 0), 18);
        due("two wholes", x.part(2, 2), 12);
        x = halvesAndThirds();
        x.image(1);
        x.empty(0);
        due("thirds alone", x.lower(), 3);
        x.back(1);
        due("behind back", x.lower(), 6);
    }

    private static void wholeBehindEachMove() {
        WineSpoon x = halvesAndThirds();
        x.spoon(1, 0, 1);
        x.spoon(0, 2, 1);
        x.lick(0, 1);
        due("lower", x.lower(), 12);
        for (int g = 0; g < 3; g++) {
            long sum = 0;
            for (int s = 0; s < 4; s++) {
                sum += x.part(g, s);
            }
            due("glass " + g + " is whole", sum, x.of(g, 1) * x.lower());
        }
    }

    /** A glass with one of stuff 0 over this lower number, the rest of the one in it stuff 1: each time all but one is licked. */
    private static void dilute(WineSpoon x, int glass, int[] fulls, int count) {
        x.fill(glass, 0, 1);
        for (int k = 0; k < count; k++) {
            due("full", x.fill(glass, 1, fulls[k] - 1), fulls[k]);
            due("lick " + (fulls[k] - 1), x.lick(glass, fulls[k] - 1), 1);
        }
    }

    private static WineSpoon threeOf60() {
        WineSpoon x = new WineSpoon();
        for (int g = 0; g < 3; g++) {
            x.glass(60);
        }
        return x;
    }

    private static void licksWithRoom() {
        WineSpoon x = threeOf60();
        dilute(x, 0, JUST_ROOM, JUST_ROOM.length);
        due("the largest lower number", x.lower(), MOST_LOWER);
        due("one of it", x.part(0, 0), 1);
        due("the rest", x.part(0, 1), MOST_LOWER - 1);
        due("nothing that can be tasted", x.taste(0, 0), 0);
        due("not all, cut", x.taste(0, 1), 99);
        due("and yet not alike to none", x.alike(0, 1, 0), 0);
    }

    private static WineSpoon nearlyNone() {
        WineSpoon x = threeOf60();
        dilute(x, 0, JUST_NONE, JUST_NONE.length - 1);
        due("lower", x.lower(), 100_000_000_571_328L / 47);
        due("full", x.fill(0, 1, 46), 47);
        return x;
    }

    private static void licksWithoutRoom() {
        WineSpoon x = nearlyNone();
        due("no room for the next one above", x.lick(0, 46), -5);
        due("status", x.status(), -5);
        due("all as it was: full", x.of(0, 1), 47);
        due("all as it was: lower", x.lower(), 100_000_000_571_328L / 47);
        due("all as it was: part", x.part(0, 0), 1);
        due("another amount has none either", x.lick(0, 42), -5);
        due("all of it has", x.lick(0, 47), 0);
        due("lower", x.lower(), 1);
    }

    private static void spoonsWithoutRoom() {
        WineSpoon x = nearlyNone();
        due("no room for the next one above", x.spoon(0, 1, 46), -5);
        due("all as it was", x.of(0, 1) * 100 + x.of(1, 1), 4700);
        due("all as it was: part", x.part(0, 0), 1);
        due("one of it", x.spoon(0, 2, 1), -5);
        due("all of it", x.spoon(0, 2, 47), 47);
        due("lower", x.lower(), 100_000_000_571_328L / 47);
        due("refused by -5", x.count(8), 2);
        // a lower number just at the limit can be spooned to as well
        x = threeOf60();
        dilute(x, 0, JUST_ROOM, JUST_ROOM.length - 1);
        x.fill(0, 1, 3);
        due("just room", x.spoon(0, 1, 1), 1);
        due("the largest lower number", x.lower(), MOST_LOWER);
        due("one over there", x.part(1, 0), 1);
        due("three here", x.part(0, 0), 3);
    }

    private static void eveningsWithoutRoom() {
        WineSpoon x = nearlyNone();
        due("lick", Check.evening(x, "fill 2 3 to 1; lick 46 from 0"), -5);
        due("stopped", x.stopped(), 1);
        due("spoon", Check.evening(x, "spoon 46 from 0 to 1; fill 2 3 to 1"), -5);
        due("stopped", x.stopped(), 0);
        due("as it was", x.of(1, 1), 0);
        // the number is asked of each move, not only of what stands in the end
        due("room in the end", Check.evening(x, "lick 46 from 0; lick 1 from 0"), -5);
        due("stopped", x.stopped(), 0);
        due("a later time", Check.evening(x, "fill 1 1 to 2; lick 46 from 0 times 2 if done > 0"), -5);
        due("stopped", x.stopped(), 1);
        due("not asked for", Check.evening(x, "fill 1 1 to 2; lick 46 from 0 if done > 1"), 1);
        due("stopped", x.stopped(), -1);
        due("with room", Check.evening(x, "spoon 47 from 0 to 1; lick 47 from 1"), 2);
        due("refused by -5", x.count(8), 4);
        x = threeOf60();
        dilute(x, 0, JUST_ROOM, JUST_ROOM.length - 1);
        due("just room", Check.evening(x, "fill 1 3 to 0; lick 3 from 0"), 2);
        due("the largest lower number", x.lower(), MOST_LOWER);
    }

    private static void nightsWithoutRoom() {
        WineSpoon x = nearlyNone();
        x.size(1);
        // a seed of 7 draws from 2 to 0, the same again, and only later from 0 to 2 and from 0 to 1
        due("a spoonful from an empty one", x.night(7, 1), 0);
        x.fill(2, 0, 1);
        due("one that can be", x.night(7, 1), 1);
        due("and none that has no room", x.night(7, 20), 1);
        due("as much as came of it", x.drawn(0, 0), 2);
        x.lick(2, 1);
        x.spoon(0, 2, 47);
        due("it has no room: none", x.night(7, 1), 0);
        due("nothing was drawn", x.drawn(0, 0), 0);
    }

    private static void rowsOfMovesWithoutRoom() {
        WineSpoon x = nearlyNone();
        x.size(46);
        x.fill(1, 0, 46);
        due("46 of whole ones have room, 46 of the others not", x.fits(1, -1, 0), 1);
        due("from", x.fits(1, 0, 1), 1);
        due("to", x.fits(1, 0, 2), 2);
        due("no reach by what has no room", x.reach(2, 1, 50, 50, -1, 0), 1);
        due("by the other one", x.reach(2, 1, 50, 50, 0, 1), 1);
        due("not at all", x.reach(2, 1, 99, 1, -1, 0), -1);
        x.wash();
        x.size(47);
        due("all of it has room", x.reach(2, 1, 99, 1, -1, 0), 1);
    }

    /** The lower number counts in lowest terms: what could be divided by on the way does not matter. */
    private static void roomInLowestTerms() {
        WineSpoon x = nearlyNone();
        due("46 of 47 are left, and 46 is even", x.lick(0, 1), 46);
        due("half of what had no room", x.lower(), 100_000_000_571_328L / 2);
        due("part", x.part(0, 0), 23);
        x = nearlyNone();
        due("5 of 47 are left: nothing falls out", x.lick(0, 42), -5);
        due("44 of 47 are left: a fourth and 11 fall out", x.lick(0, 3), 44);
        due("lower", x.lower(), 100_000_000_571_328L / 44);
        x = nearlyNone();
        due("an evening, too", Check.evening(x, "lick 1 from 0; spoon 46 from 0 to 1"), 2);
        due("lower behind it", x.lower(), 100_000_000_571_328L / 2);
        // at the limit itself the whole glass goes to and fro in ever the same lower number
        x = threeOf60();
        dilute(x, 1, JUST_ROOM, JUST_ROOM.length);
        for (int k = 0; k < 3; k++) {
            due("over", x.spoon(1, 2, 1), 1);
            due("back", x.spoon(2, 1, 1), 1);
            due("lower", x.lower(), MOST_LOWER);
        }
    }

    private static void fillingNeedsNoRoom() {
        WineSpoon x = threeOf60();
        dilute(x, 0, JUST_ROOM, JUST_ROOM.length);
        due("fill beside the largest lower number", x.fill(0, 3, 59), 60);
        due("its part", x.part(0, 3), 59 * MOST_LOWER);
        due("fill another one", x.fill(1, 2, 60), 60);
        due("its part", x.part(1, 2), 60 * MOST_LOWER);
        due("lower", x.lower(), MOST_LOWER);
        due("taste", x.taste(0, 3), 98);
        due("taste of all", x.taste(1, 2), 100);
        x.fill(2, 2, 1);
        due("alike", x.alike(1, 2, 2), 1);
        due("not alike", x.alike(0, 1, 2), 0);
    }

    /** Products with the largest parts there are must not run over. */
    private static void largestNumbers() {
        WineSpoon x = threeOf60();
        dilute(x, 0, JUST_ROOM, JUST_ROOM.length);
        x.fill(1, 2, 60);
        x.size(60);
        due("whole ones go where they like", x.reach(2, 2, 100, 0, -1, 0), 1);
        due("reach in the other", x.reach(0, 1, 100, 0, -1, 0), -1);
        due("nearly", x.reach(0, 1, 100, 1, -1, 0), 0);
        x.tasting(0, 1, 99);
        x.tasting(2, 2, 100);
        due("fits", x.fits(1, -1, 0), 1);
        due("spoon all", x.spoon(1, 2, 60), 60);
        due("its part", x.part(2, 2), 60 * MOST_LOWER);
        due("evening of it", Check.evening(x, "spoon 60 from 2 to 1 times 20 if full 2 = 60 and taste 2 2 = 100"), 1);
        due("lick", x.lick(1, 59), 1);
        due("its part then", x.part(1, 2), MOST_LOWER);
        due("lower", x.lower(), MOST_LOWER);
    }
}
