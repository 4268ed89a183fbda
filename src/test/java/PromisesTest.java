/** For each promise ordinary inputs, the edges that the document names, and wrong inputs. */
public final class PromisesTest {
    private static final int LEAST = Integer.MIN_VALUE;
    private static final int MOST = Integer.MAX_VALUE;

    public static void main(String[] args) {
        newObject();
        glass();
        ofAndPart();
        taste();
        fill();
        spoon();
        lick();
        empty();
        numbersWithoutRoom();
        tape();
        row();
        eveningAnswers();
        alike();
        both();
        rounds();
        sizeAndWash();
        reach();
        fits();
        cask();
        guests();
        rinse();
        wines();
        mix();
        cards();
        night();
        images();
        countAndStatus();
        Check.close();
    }

    private static void due(String call, long got, long want) {
        Check.due(call, got, want);
    }

    /** Two glasses of 10, one with five of stuff 0, the other with five of stuff 1. */
    private static WineSpoon two() {
        WineSpoon x = new WineSpoon();
        x.glass(10);
        x.glass(10);
        x.fill(0, 0, 5);
        x.fill(1, 1, 5);
        return x;
    }

    // Promise 1
    private static void newObject() {
        WineSpoon x = new WineSpoon();
        for (int what = 0; what <= 9; what++) {
            due("new: count " + what, x.count(what), 0);
        }
        due("new: lower", x.lower(), 1);
        due("new: spilt", x.spilt(), 0);
        due("new: fault", x.fault(), -1);
        due("new: stopped", x.stopped(), -1);
        due("new: status", x.status(), 0);
        due("new: drawn", x.drawn(0, 0), -1);
        due("new: of", x.of(0, 0), -1);
        due("new: back", x.back(0), -2);
    }

    // Promise 2
    private static void glass() {
        WineSpoon x = new WineSpoon();
        due("glass 0", x.glass(0), -1);
        due("glass 61", x.glass(61), -1);
        due("glass least", x.glass(LEAST), -1);
        due("glass most", x.glass(MOST), -1);
        due("glass 1", x.glass(1), 0);
        due("glass 60", x.glass(60), 1);
        for (int g = 2; g < 6; g++) {
            due("glass 7", x.glass(7), g);
        }
        due("seventh", x.glass(7), -5);
        due("seventh, of no size", x.glass(0), -1);
        due("count", x.count(0), 6);
        due("is empty", x.of(5, 1), 0);
    }

    // Promises 3, 4, 5
    private static void ofAndPart() {
        WineSpoon x = two();
        due("of size", x.of(1, 0), 10);
        due("of full", x.of(1, 1), 5);
        due("of what 2", x.of(1, 2), -1);
        due("of what -1", x.of(1, -1), -1);
        due("of glass 2", x.of(2, 0), -1);
        due("of glass -1", x.of(-1, 1), -1);
        due("part", x.part(0, 0), 5);
        due("part of another stuff", x.part(0, 1), 0);
        due("part stuff 4", x.part(0, 4), -1);
        due("part stuff -1", x.part(0, -1), -1);
        due("part glass 2", x.part(2, 0), -1);
        due("part glass -1", x.part(-1, 0), -1);
        x.spoon(0, 1, 1);
        x.spoon(1, 0, 2);
        // two sixths of the one and ten sixths of the other came over
        due("lower", x.lower(), 3);
        due("part 0 0", x.part(0, 0), 13);
        due("part 0 1", x.part(0, 1), 5);
        due("part 1 0", x.part(1, 0), 2);
        due("part 1 1", x.part(1, 1), 10);
        due("full is whole", x.of(0, 1), 6);
        x.spoon(0, 1, 6);
        due("lowest terms together", x.lower(), 1);
        due("all in one", x.part(1, 0) * 100 + x.part(1, 1), 505);
    }

    // Promise 6
    private static void taste() {
        WineSpoon x = new WineSpoon();
        x.glass(10);
        due("taste in an empty one", x.taste(0, 0), 0);
        x.fill(0, 0, 1);
        x.fill(0, 3, 2);
        due("taste, cut", x.taste(0, 0), 33);
        due("taste, cut too", x.taste(0, 3), 66);
        due("taste of none", x.taste(0, 1), 0);
        due("taste stuff 4", x.taste(0, 4), -1);
        due("taste stuff -1", x.taste(0, -1), -1);
        due("taste glass 1", x.taste(1, 0), -1);
        due("taste glass -1", x.taste(-1, 0), -1);
    }

    // Promise 7
    private static void fill() {
        WineSpoon x = new WineSpoon();
        x.glass(60);
        x.glass(3);
        due("fill 60", x.fill(0, 3, 60), 60);
        due("fill a full one", x.fill(0, 0, 1), -3);
        due("fill 61", x.fill(1, 0, 61), -1);
        due("fill 0", x.fill(1, 0, 0), -1);
        due("fill -1", x.fill(1, 0, -1), -1);
        due("fill stuff 4", x.fill(1, 4, 1), -1);
        due("fill stuff -1", x.fill(1, -1, 1), -1);
        due("fill glass 2", x.fill(2, 0, 1), -2);
        due("fill glass -1", x.fill(-1, 0, 1), -2);
        due("fill: -1 ahead of -2", x.fill(9, 9, 1), -1);
        due("fill too much", x.fill(1, 0, 4), -3);
        due("fill some", x.fill(1, 0, 1), 1);
        due("fill more", x.fill(1, 1, 2), 3);
        due("fill: nothing else came in", x.of(1, 1), 3);
    }

    // Promise 8
    private static void spoon() {
        WineSpoon x = two();
        x.glass(1);
        due("spoon 0", x.spoon(0, 1, 0), -1);
        due("spoon 61", x.spoon(0, 1, 61), -1);
        due("spoon: -1 ahead of -2", x.spoon(8, 9, 0), -1);
        due("spoon from none", x.spoon(3, 0, 1), -2);
        due("spoon to none", x.spoon(0, -1, 1), -2);
        due("spoon among the same that is none", x.spoon(5, 5, 1), -2);
        due("spoon to the same", x.spoon(0, 0, 1), -3);
        due("spoon too much", x.spoon(0, 1, 6), -3);
        due("spoon without room", x.spoon(0, 2, 2), -3);
        due("spoon 60", x.spoon(0, 1, 60), -3);
        due("spoon", x.spoon(0, 1, 5), 10);
        due("spoon from an empty one", x.spoon(0, 1, 1), -3);
        due("spoon into a full one", x.spoon(1, 2, 1), 1);
        due("stirred", x.taste(2, 0), 50);
        due("lower", x.lower(), 2);
        due("left", x.of(1, 1), 9);
    }

    // Promise 9
    private static void lick() {
        WineSpoon x = two();
        x.spoon(0, 1, 1);
        due("lick 0", x.lick(1, 0), -1);
        due("lick 61", x.lick(1, 61), -1);
        due("lick: -1 ahead of -2", x.lick(7, 0), -1);
        due("lick none", x.lick(2, 1), -2);
        due("lick below", x.lick(-1, 1), -2);
        due("lick too much", x.lick(1, 7), -3);
        due("lick", x.lick(1, 1), 5);
        due("lick: lower", x.lower(), 6);
        due("lick: part", x.part(1, 0), 5);
        due("lick: part of the other", x.part(1, 1), 25);
        due("lick all", x.lick(1, 5), 0);
        due("lick: lower of none", x.lower(), 1);
        due("lick an empty one", x.lick(1, 1), -3);
    }

    // Promise 10
    private static void empty() {
        WineSpoon x = two();
        x.spoon(0, 1, 1);
        x.lick(1, 1);
        due("empty none", x.empty(2), -2);
        due("empty below", x.empty(-1), -2);
        due("empty", x.empty(1), 5);
        due("empty: lower", x.lower(), 1);
        due("empty again", x.empty(1), 0);
        due("empty: the other one stays", x.of(0, 1), 4);
        due("empty: size stays", x.of(1, 0), 10);
    }

    // Promises 5, 8, 9, 15, 33: the lower number has no room above 100,000,000,000,000
    private static void numbersWithoutRoom() {
        WineSpoon x = new WineSpoon();
        x.glass(60);
        x.glass(60);
        x.fill(0, 0, 10);
        x.fill(1, 1, 10);
        due("the first lick leaves nine whole ones", x.lick(0, 1), 9);
        // each other one leaves nine tenths of them
        for (int k = 0; k < 13; k++) {
            due("fill up", x.fill(0, 2, 1), 10);
            due("lick", x.lick(0, 1), 9);
        }
        due("lower 10 to the 13th", x.lower(), 10_000_000_000_000L);
        due("fill up", x.fill(0, 2, 1), 10);
        due("just room", x.lick(0, 1), 9);
        due("lower, the largest", x.lower(), 100_000_000_000_000L);
        due("part", x.part(0, 0), 9L * 22876792454961L);
        x.fill(0, 2, 1);
        due("no room: lick", x.lick(0, 1), -5);
        due("no room: spoon", x.spoon(0, 1, 1), -5);
        due("-3 ahead of -5", x.spoon(0, 1, 11), -3);
        due("nothing has changed", x.of(0, 1) * 100 + x.of(1, 1), 1010);
        due("nothing has changed in the lower number", x.lower(), 100_000_000_000_000L);
        due("evening without room", Check.evening(x, "fill 0 1 to 1; lick 1 from 0"), -5);
        due("status", x.status(), -5);
        due("stopped", x.stopped(), 1);
        due("fault", x.fault(), -1);
        due("as it was", x.of(1, 1), 10);
        due("whole glasses can still be spooned", x.spoon(1, 0, 1), 11);
        due("back", x.spoon(1, 0, 9), 20);
        x.size(1);
        due("a night's moves without room are none", x.night(0, 20), 0);
        due("a row's moves without room can't be", x.fits(1, -1, 0), 0);
        due("all at once", x.spoon(0, 1, 20), 20);
        due("room behind it", x.spoon(1, 0, 20), 20);
        due("emptied", x.empty(0), 20);
        due("lower", x.lower(), 1);
        due("refused by -5", x.count(8), 3);
        lowestTermsMakeRoom();
    }

    /** A spoonful that makes a glass alike to another one: much falls out of the lower number on the way. */
    private static void lowestTermsMakeRoom() {
        WineSpoon x = new WineSpoon();
        x.glass(20);
        x.glass(20);
        x.fill(0, 0, 9);
        for (int k = 0; k < 14; k++) {
            x.fill(0, 1, 1);
            x.lick(0, 1);
        }
        due("lower, the largest", x.lower(), 100_000_000_000_000L);
        // nine of it over there and one back, all alike: a ninth, of what nine can divide
        due("over", x.spoon(0, 1, 9), 9);
        due("back", x.spoon(1, 0, 1), 1);
        due("lower as ahead", x.lower(), 100_000_000_000_000L);
        due("part", x.part(0, 0), 22876792454961L);
        due("the rest", x.part(1, 0), 8 * 22876792454961L);
        due("evenings find room too", Check.evening(x, "spoon 1 from 1 to 0 times 7; spoon 2 from 0 to 1"), 8);
        due("part", x.part(1, 0), 3 * 22876792454961L);
        due("part of stuff 1", x.part(1, 1), 300_000_000_000_000L - 3 * 22876792454961L);
    }

    // Promises 11, 12
    private static void tape() {
        WineSpoon x = new WineSpoon();
        due("end of an empty one", x.end(0), 0);
        due("end 1 of an empty one", x.end(1), -1);
        for (int k = 1; k <= 19; k++) {
            due("feed", x.feed(k, k, k, k, k), 20 * k);
        }
        due("end 361", x.end(361), 361);
        due("feed to 381", x.feed(0, 0, 0, 0, 0), 381);
        due("feed beyond 400", x.feed(0, 0, 0, 0, 0), -1);
        due("it has as many as ahead", x.count(4), 381);
        due("end 382", x.end(382), -1);
        due("end -1", x.end(-1), -1);
        due("end least", x.end(LEAST), -1);
        due("end most", x.end(MOST), -1);
        due("end 380", x.end(380), 380);
        due("feed to 400", x.feed(0, 0, 0, 0, 0), 400);
        due("feed to a full one", x.feed(0, 0, 0, 0, 0), -1);
        due("end 400", x.end(400), 400);
        x.end(0);
        x.glass(60);
        // the highest first: glass 0, then 1, 2, 3 and 4; negative numbers have bytes as well
        x.feed(0x00010203, 0x04ffffff, -1, 0, 0);
        x.end(8);
        due("row of bytes", x.row(), 4);
        due("bytes above 127", x.spilt(), 3);
        due("first amount", x.part(0, 0), 1);
        due("fourth amount", x.part(0, 3), 4);
        due("tape is empty then", x.count(4), 0);
    }

    private static int row(WineSpoon x, int... bytes) {
        StringBuilder text = new StringBuilder();
        for (int b : bytes) {
            text.append((char) b);
        }
        Check.tell(x, text.toString());
        return x.row();
    }

    // Promises 13, 14
    private static void row() {
        WineSpoon x = new WineSpoon();
        due("row of nothing", x.row(), -6);
        due("row without glasses", row(x, 0, 1), -6);
        due("the tape is empty then", x.count(4), 0);
        x.glass(10);
        due("row of a glass alone", row(x, 0), 0);
        due("none spilt", x.spilt(), 0);
        due("row", row(x, 0, 1, 2, 3, 4, 0, 7), 4);
        due("spilt behind the fourth", x.spilt(), 2);
        due("no such glass", row(x, 1, 1), -6);
        due("spilt of the latest that was not refused", x.spilt(), 2);
        due("a full one", row(x, 0, 1, 61, 0), 0);
        due("all spilt", x.spilt(), 3);
        x.empty(0);
        due("one by one", row(x, 0, 9, 2, 1), 2);
        due("what had no room was spilt", x.spilt(), 1);
        due("stuff 2", x.part(0, 2), 1);
        due("refused by -6", x.count(9), 3);
        x.glass(60);
        due("60 of a stuff", row(x, 1, 60), 1);
        x.empty(1);
        due("61 of a stuff", row(x, 1, 61), 0);
    }

    // Promises 15, 16, 17: the answers; EveningTest has the language
    private static void eveningAnswers() {
        WineSpoon x = two();
        due("evening", Check.evening(x, "spoon 2 from 0 to 1; spoon 2 from 1 to 0; lick 1 from 0 times 2"), 4);
        due("tape is empty then", x.count(4), 0);
        due("fault", x.fault(), -1);
        due("stopped", x.stopped(), -1);
        due("full", x.of(0, 1), 3);
        due("can't be", Check.evening(x, "lick 1 from 0; lick 1 from 1; lick 1 from 0 times 3"), -3);
        due("stopped", x.stopped(), 2);
        due("status", x.status(), -3);
        due("tape is empty then too", x.count(4), 0);
        due("all as ahead of it", x.of(0, 1) * 100 + x.of(1, 1), 305);
        due("a fault", Check.evening(x, "lick 1 from 0; lick 1 of 1"), -6);
        due("fault's place", x.fault(), 22);
        due("stopped of a fault", x.stopped(), -1);
        due("tape is empty then as well", x.count(4), 0);
        due("nothing was done", x.of(0, 1), 3);
        due("no text", x.evening(), -6);
        due("fault of no text", x.fault(), 0);
        due("blanks alone", Check.evening(x, "       "), -6);
        due("fault of blanks", x.fault(), 7);
        due("none done", Check.evening(x, "lick 1 from 0 if 0 = 1"), 0);
        due("fault is gone", x.fault(), -1);
        due("no such glass", Check.evening(x, "lick 1 from 2"), -3);
        due("no such glass to spoon to", Check.evening(x, "spoon 1 from 0 to 2"), -3);
        due("no such glass to fill", Check.evening(x, "fill 0 1 to 2"), -3);
        due("from is to", Check.evening(x, "spoon 1 from 1 to 1"), -3);
        due("an amount that is none", Check.evening(x, "lick 0 from 1"), -3);
        due("an amount below", Check.evening(x, "lick 1-2 from 1"), -3);
        due("an amount above", Check.evening(x, "fill 1 61 to 1"), -3);
        due("no room", Check.evening(x, "fill 1 6 to 1"), -3);
        due("a broken sum", Check.evening(x, "lick 1/0 from 1"), -3);
        due("refused by -3", x.count(7), 10);
        due("refused by -6", x.count(9), 3);
    }

    // Promise 18
    private static void alike() {
        WineSpoon x = two();
        x.glass(10);
        x.glass(20);
        due("alike", x.alike(0, 1, 0), 0);
        due("alike to itself", x.alike(0, 0, 0), 1);
        due("none of it in both", x.alike(0, 1, 2), 1);
        due("an empty one has none", x.alike(0, 2, 0), 0);
        due("an empty one and one without", x.alike(0, 2, 1), 1);
        due("two empty ones", x.alike(2, 3, 0), 1);
        x.fill(3, 0, 5);
        x.fill(3, 1, 5);
        due("in fulls that differ", x.alike(0, 3, 0), 0);
        x.fill(2, 0, 1);
        x.fill(2, 1, 1);
        due("as strong in another full", x.alike(2, 3, 0), 1);
        x.fill(2, 1, 1);
        due("a third and a half", x.alike(2, 3, 1), 0);
        due("stuff 4", x.alike(0, 1, 4), -1);
        due("stuff -1", x.alike(0, 1, -1), -1);
        due("glass 4", x.alike(0, 4, 0), -1);
        due("glass -1", x.alike(-1, 0, 0), -1);
    }

    // Promise 19
    private static void both() {
        WineSpoon x = new WineSpoon();
        due("both, none", x.both(5, 2, 0, 0), 1);
        due("both, none, lower", x.both(5, 2, 0, 1), 1);
        due("both", x.both(5, 2, 1, 0), 3);
        due("both lower", x.both(5, 2, 1, 1), 7);
        due("both after 6", x.both(60, 59, 6, 1), 119L * 119 * 119 * 119 * 119 * 119);
        due("both after 6, upper", x.both(60, 59, 6, 0), 1);
        due("both in lowest terms", x.both(60, 20, 3, 1), 8);
        due("both 7 rounds", x.both(5, 2, 7, 0), -1);
        due("both -1 rounds", x.both(5, 2, -1, 0), -1);
        due("both what 2", x.both(5, 2, 1, 2), -1);
        due("both what -1", x.both(5, 2, 1, -1), -1);
        due("both a spoon as large", x.both(5, 5, 1, 0), -1);
        due("both no spoon", x.both(5, 0, 1, 0), -1);
        due("both full 61", x.both(61, 1, 1, 0), -1);
        due("both full 0", x.both(0, 0, 1, 0), -1);
        due("both full 1", x.both(1, 0, 1, 0), -1);
        due("both full 2", x.both(2, 1, 1, 1), 3);
        due("both least", x.both(LEAST, LEAST, LEAST, LEAST), -1);
        due("both most", x.both(MOST, MOST, MOST, MOST), -1);
    }

    // Promise 20
    private static void rounds() {
        WineSpoon x = new WineSpoon();
        due("rounds 100", x.rounds(5, 2, 100), 0);
        due("rounds 99", x.rounds(5, 2, 99), 1);
        due("rounds just", x.rounds(60, 20, 25), 2);
        due("rounds 24", x.rounds(60, 20, 24), 3);
        due("rounds by 6", x.rounds(60, 20, 2), 6);
        due("rounds 0", x.rounds(60, 59, 0), -1);
        due("rounds 1", x.rounds(60, 59, 1), 1);
        due("rounds not after 6", x.rounds(60, 1, 50), -1);
        due("rounds 101", x.rounds(5, 2, 101), -1);
        due("rounds -1", x.rounds(5, 2, -1), -1);
        due("rounds full 61", x.rounds(61, 2, 50), -1);
        due("rounds full 0", x.rounds(0, 2, 100), -1);
        due("rounds spoon 0", x.rounds(5, 0, 100), -1);
        due("rounds spoon 5", x.rounds(5, 5, 100), -1);
    }

    // Promises 21, 22
    private static void sizeAndWash() {
        WineSpoon x = two();
        due("size 0", x.size(0), -1);
        due("size 61", x.size(61), -1);
        due("size 60", x.size(60), 0);
        due("size 1", x.size(1), 1);
        due("size 1 again", x.size(1), 2);
        due("a fourth", x.size(1), -5);
        due("a fourth of no size", x.size(0), -1);
        x.tasting(0, 0, 100);
        x.tasting(0, 0, 100);
        due("count of spoons", x.count(1), 3);
        due("count of tastings", x.count(2), 2);
        due("wash", x.wash(), 5);
        due("wash again", x.wash(), 0);
        due("status stays that of tasting", x.status(), 0);
        due("count of spoons", x.count(1), 0);
        due("count of tastings", x.count(2), 0);
        due("size behind it", x.size(2), 0);
    }

    // Promise 23
    private static void reach() {
        WineSpoon x = two();
        due("reach without spoons", x.reach(0, 0, 50, 0, -1, 0), -1);
        due("reach as it is", x.reach(0, 0, 95, 5, -1, 0), 0);
        due("reach as it is, not so near", x.reach(0, 0, 95, 4, -1, 0), -1);
        due("reach by none: there is no move", x.reach(0, 0, 100, 0, 0, 0), -1);
        x.size(5);
        x.size(1);
        x.glass(3);
        due("reach in an empty one", x.reach(2, 0, 100, 0, -1, 0), 1);
        due("reach: spoon", x.reach(2, 0, 100, 0, 0, 0), 1);
        due("reach: from", x.reach(2, 0, 100, 0, 0, 1), 0);
        due("reach: to", x.reach(2, 0, 100, 0, 0, 2), 2);
        due("reach 0 in an empty one is by a move as well", x.reach(2, 0, 0, 0, -1, 0), 1);
        due("reach by two", x.reach(2, 0, 50, 0, -1, 0), 2);
        due("reach by two: first", x.reach(2, 0, 50, 0, 0, 0), 0);
        due("reach by two: first from", x.reach(2, 0, 50, 0, 0, 1), 0);
        due("reach by two: first to", x.reach(2, 0, 50, 0, 0, 2), 1);
        due("reach by two: second", x.reach(2, 0, 50, 0, 1, 0), 1);
        due("reach by two: second from", x.reach(2, 0, 50, 0, 1, 1), 1);
        due("reach by two: second to", x.reach(2, 0, 50, 0, 1, 2), 2);
        due("reach by three", x.reach(2, 0, 66, 1, -1, 0), 3);
        due("reach not by three", x.reach(2, 0, 7, 0, -1, 0), -1);
        due("reach i 2 of two", x.reach(2, 0, 50, 0, 2, 0), -1);
        due("reach i -2", x.reach(2, 0, 50, 0, -2, 0), -1);
        due("reach what 3", x.reach(2, 0, 50, 0, 0, 3), -1);
        due("reach what -1", x.reach(2, 0, 50, 0, 0, -1), -1);
        due("reach glass 3", x.reach(3, 0, 50, 100, -1, 0), -1);
        due("reach stuff 4", x.reach(0, 4, 50, 100, -1, 0), -1);
        due("reach stuff -1", x.reach(0, -1, 50, 100, -1, 0), -1);
        due("reach stuff 1", x.reach(1, 1, 100, 0, -1, 0), 0);
        due("reach stuff 1 by one", x.reach(0, 1, 50, 0, -1, 0), 1);
        due("reach stuff 1 by one: from", x.reach(0, 1, 50, 0, 0, 1), 1);
        due("reach by three: third from", x.reach(2, 0, 66, 1, 2, 1), 1);
        due("reach by three: third to", x.reach(2, 0, 66, 1, 2, 2), 2);
        due("reach strength 101", x.reach(0, 0, 101, 100, -1, 0), -1);
        due("reach strength -1", x.reach(0, 0, -1, 100, -1, 0), -1);
        due("reach within -1", x.reach(0, 0, 50, -1, -1, 0), -1);
        due("reach within 100", x.reach(0, 0, 0, 100, -1, 0), 0);
        due("nothing was spooned", x.of(0, 1) * 100 + x.of(1, 1), 505);
        // moves go among glasses 0, 1, 2 alone
        x.glass(9);
        due("reach in glass 3", x.reach(3, 0, 100, 0, -1, 0), -1);
        x.fill(3, 0, 1);
        due("reach in glass 3 as it is", x.reach(3, 0, 100, 0, -1, 0), 0);
    }

    // Promises 24, 25
    private static void fits() {
        WineSpoon x = two();
        due("tasting stuff 4", x.tasting(0, 4, 0), -1);
        due("tasting stuff -1", x.tasting(0, -1, 0), -1);
        due("tasting taste 101", x.tasting(0, 0, 101), -1);
        due("tasting taste -1", x.tasting(0, 0, -1), -1);
        due("tasting: -1 ahead of -2", x.tasting(2, 0, 101), -1);
        due("tasting glass 2", x.tasting(2, 0, 50), -2);
        due("fits without tastings", x.fits(0, -1, 0), 1);
        due("fits without spoons", x.fits(1, -1, 0), 0);
        x.size(1);
        x.size(1);
        due("fits: any move", x.fits(1, -1, 0), 4);
        due("fits: any two", x.fits(2, -1, 0), 16);
        due("fits: any three", x.fits(3, -1, 0), 64);
        due("reach ahead of fits", x.reach(0, 3, 0, 0, -1, 0), 0);
        due("fits does not ask that", x.fits(1, -1, 0), 4);
        due("tasting", x.tasting(1, 0, 16), 1);
        due("fits by one", x.fits(1, -1, 0), 2);
        due("fits by one: spoon", x.fits(1, 0, 0), 0);
        due("fits by one: from", x.fits(1, 0, 1), 0);
        due("fits by one: to", x.fits(1, 0, 2), 1);
        due("fits what 3", x.fits(1, 0, 3), -1);
        due("fits what -1", x.fits(1, 0, -1), -1);
        due("fits i 1 of one", x.fits(1, 1, 0), -1);
        due("fits i -2", x.fits(1, -2, 0), -1);
        due("tasting 2", x.tasting(0, 0, 100), 2);
        due("fits both", x.fits(1, -1, 0), 2);
        due("tasting 3", x.tasting(0, 0, 0), 3);
        due("fits none", x.fits(1, -1, 0), 0);
        due("fits none: no first", x.fits(1, 0, 0), -1);
        due("tasting 4", x.tasting(0, 0, 0), 4);
        due("tasting 5", x.tasting(0, 3, 100), 5);
        due("tasting 6", x.tasting(0, 0, 0), 6);
        due("tasting 7", x.tasting(0, 0, 0), -5);
        due("tasting 7: -2 ahead of -5", x.tasting(6, 0, 0), -2);
        due("fits -1", x.fits(-1, -1, 0), -1);
        due("fits 4", x.fits(4, -1, 0), -1);
        x.wash();
        x.size(5);
        x.tasting(0, 0, 0);
        due("fits: 0 in an emptied one", x.fits(1, -1, 0), 1);
        due("nothing was spooned", x.of(0, 1), 5);
    }

    // Promise 26
    private static void cask() {
        WineSpoon x = new WineSpoon();
        due("cask", x.cask(10, 4, 2, 0), 9);
        due("cask lower", x.cask(10, 4, 2, 1), 25);
        due("cask after none", x.cask(10, 4, 0, 0) * 10 + x.cask(10, 4, 0, 1), 11);
        due("cask none drawn", x.cask(10, 0, 6, 0) * 10 + x.cask(10, 0, 6, 1), 11);
        due("cask all drawn", x.cask(10, 10, 1, 0), 0);
        due("cask all drawn, lower", x.cask(10, 10, 1, 1), 1);
        due("cask all drawn by none", x.cask(10, 10, 0, 0), 1);
        due("cask after 6", x.cask(60, 1, 6, 1), 60L * 60 * 60 * 60 * 60 * 60);
        due("cask after 6, upper", x.cask(60, 1, 6, 0), 59L * 59 * 59 * 59 * 59 * 59);
        due("cask 7", x.cask(10, 4, 7, 0), -1);
        due("cask -1", x.cask(10, 4, -1, 0), -1);
        due("cask drawn 11", x.cask(10, 11, 1, 0), -1);
        due("cask drawn -1", x.cask(10, -1, 1, 0), -1);
        due("cask size 61", x.cask(61, 1, 1, 0), -1);
        due("cask size 0", x.cask(0, 0, 1, 0), -1);
        due("cask size 1", x.cask(1, 1, 1, 1), 1);
        due("cask what 2", x.cask(10, 4, 2, 2), -1);
        due("cask what -1", x.cask(10, 4, 2, -1), -1);
        due("cask most", x.cask(MOST, LEAST, MOST, 0), -1);
    }

    // Promise 27
    private static void guests() {
        WineSpoon x = new WineSpoon();
        due("guests", x.guests(10, 5, 26), 2);
        due("guests: just as many is not less", x.guests(10, 5, 25), 3);
        due("guests 100", x.guests(10, 1, 100), 1);
        due("guests by 6", x.guests(10, 1, 54), 6);
        due("guests not by 6", x.guests(10, 1, 53), -1);
        due("guests all drawn", x.guests(10, 10, 1), 1);
        due("guests 0", x.guests(10, 10, 0), -1);
        due("guests 101", x.guests(10, 10, 101), -1);
        due("guests -1", x.guests(10, 10, -1), -1);
        due("guests drawn 11", x.guests(10, 11, 50), -1);
        due("guests drawn -1", x.guests(10, -1, 50), -1);
        due("guests size 0", x.guests(0, 0, 50), -1);
        due("guests size 61", x.guests(61, 61, 50), -1);
    }

    // Promise 28
    private static void rinse() {
        WineSpoon x = new WineSpoon();
        due("rinse", x.rinse(2, 5, 3, 0), 1);
        due("rinse lower", x.rinse(2, 5, 3, 1), 6);
        due("rinse go 0", x.rinse(2, 5, 3, 2), 1);
        due("rinse go 1", x.rinse(2, 5, 3, 3), 2);
        due("rinse go 2", x.rinse(2, 5, 3, 4), 2);
        due("rinse go 3 of 3", x.rinse(2, 5, 3, 5), -1);
        due("rinse what -1", x.rinse(2, 5, 3, -1), -1);
        due("rinse without water", x.rinse(9, 0, 6, 1), 1);
        due("rinse little water", x.rinse(1, 2, 6, 5), 0);
        due("rinse little water, late", x.rinse(1, 2, 6, 6), 1);
        due("rinse the most, lower", x.rinse(1, 60, 6, 1), 1771561);
        due("rinse the most, last go", x.rinse(9, 60, 6, 7), 10);
        due("rinse beyond the last go", x.rinse(9, 60, 6, 8), -1);
        due("rinse in one", x.rinse(9, 60, 1, 2), 60);
        due("rinse in one, lowest terms", x.rinse(9, 60, 1, 1), 23);
        due("rinse clings 0", x.rinse(0, 5, 3, 0), -1);
        due("rinse clings 10", x.rinse(10, 5, 3, 0), -1);
        due("rinse water 61", x.rinse(2, 61, 3, 0), -1);
        due("rinse water -1", x.rinse(2, -1, 3, 0), -1);
        due("rinse no goes", x.rinse(2, 5, 0, 0), -1);
        due("rinse 7 goes", x.rinse(2, 5, 7, 0), -1);
        due("rinse most", x.rinse(MOST, MOST, MOST, MOST), -1);
    }

    // Promises 29, 30
    private static void wines() {
        WineSpoon x = new WineSpoon();
        due("wine 0", x.wine(0, 0, 0), 0);
        due("wine 1", x.wine(100, 99, 20), 1);
        due("wine strength 101", x.wine(101, 0, 0), -1);
        due("wine strength -1", x.wine(-1, 0, 0), -1);
        due("wine price 100", x.wine(0, 100, 0), -1);
        due("wine price -1", x.wine(0, -1, 0), -1);
        due("wine amount 21", x.wine(0, 0, 21), -1);
        due("wine amount -1", x.wine(0, 0, -1), -1);
        due("wine 2", x.wine(50, 1, 5), 2);
        due("wine 3", x.wine(50, 2, 5), 3);
        due("wine 4", x.wine(50, 3, 5), 4);
        due("wine 5", x.wine(50, 4, 5), 5);
        due("wine 6", x.wine(50, 4, 5), -5);
        due("wine 6 that can't be", x.wine(50, 4, 55), -1);
        due("drink 6", x.drink(6), -2);
        due("drink -1", x.drink(-1), -2);
        due("drink 2", x.drink(2), 5);
        due("those behind moved up", x.mix(5, 50, 3), 5);
        due("at their prices", x.mix(5, 50, 0), 10);
        due("drink the last", x.drink(4), 4);
        due("drink 4", x.drink(4), -2);
        due("drink the first", x.drink(0), 3);
        due("count", x.count(3), 3);
        due("the next one's number", x.wine(1, 1, 1), 3);
    }

    // Promise 31
    private static void mix() {
        WineSpoon x = new WineSpoon();
        due("mix of none", x.mix(1, 0, 0), -1);
        x.wine(40, 3, 20);
        x.wine(40, 3, 4);
        x.wine(40, 4, 20);
        due("mix price", x.mix(6, 40, 0), 18);
        due("mix: less ahead", x.mix(6, 40, 1), 2);
        due("mix: more behind", x.mix(6, 40, 2), 4);
        due("mix: none of the dear one", x.mix(6, 40, 3), 0);
        due("mix of a wine that is not there", x.mix(6, 40, 4), -1);
        due("mix what -1", x.mix(6, 40, -1), -1);
        due("mix of another strength", x.mix(6, 41, 0), -1);
        due("mix of another strength: no amount", x.mix(6, 41, 1), -1);
        due("mix amount 0", x.mix(0, 40, 0), -1);
        due("mix amount 21", x.mix(21, 40, 0), -1);
        due("mix amount 20", x.mix(20, 40, 0), 60);
        due("mix strength 101", x.mix(6, 101, 0), -1);
        due("mix strength -1", x.mix(6, -1, 0), -1);
        x.drink(0);
        due("mix beyond what is there", x.mix(6, 40, 0), 4 * 3 + 2 * 4);
        x.wine(0, 0, 1);
        x.wine(100, 1, 20);
        due("mix just that strength", x.mix(2, 50, 0), 1);
        due("mix: water", x.mix(2, 50, 3), 1);
        due("mix: all of a hundred", x.mix(20, 100, 0), 20);
        due("mix: none", x.mix(4, 50, 0), -1);
    }

    // Promise 32
    private static void cards() {
        WineSpoon x = new WineSpoon();
        due("cards of none", x.cards(0, 0, 0, 0, 0), 1);
        due("cards of none, all", x.cards(0, 0, 0, 0, 1), 1);
        due("cards one for one", x.cards(1, 1, 1, 1, 0), 1);
        due("cards one for one, all", x.cards(1, 1, 1, 1, 1), 2);
        due("cards more than there are", x.cards(5, 1, 2, 2, 0), 0);
        due("cards largest", x.cards(20, 20, 20, 10, 1), 137846528820L);
        due("cards largest, ways", x.cards(20, 20, 20, 10, 0), 184756L * 184756L);
        due("cards of very many", x.cards(20, 20, 14, 7, 1), 38760L * 1391975640L);
        due("cards of very many, ways", x.cards(20, 20, 14, 7, 0), 38760L * 3432L * 77520L);
        long sum = 0;
        for (int j = 0; j <= 14; j++) {
            sum += x.cards(20, 20, 14, j, 0);
        }
        due("cards: the ways are all", sum, x.cards(20, 20, 14, 0, 1));
        due("cards 21 red", x.cards(21, 4, 2, 0, 0), -1);
        due("cards 21 black", x.cards(4, 21, 2, 0, 0), -1);
        due("cards -1 red", x.cards(-1, 4, 0, 0, 0), -1);
        due("cards -1 black", x.cards(4, -1, 0, 0, 0), -1);
        due("cards k above red", x.cards(3, 4, 4, 0, 0), -1);
        due("cards k below", x.cards(3, 4, -1, 0, 0), -1);
        due("cards j above k", x.cards(3, 4, 2, 3, 0), -1);
        due("cards j below", x.cards(3, 4, 2, -1, 0), -1);
        due("cards what 2", x.cards(3, 4, 2, 0, 2), -1);
        due("cards what -1", x.cards(3, 4, 2, 0, -1), -1);
    }

    // Promises 33, 34
    private static void night() {
        WineSpoon x = new WineSpoon();
        due("night without glasses", x.night(0, 1), 0);
        due("drawn of none", x.drawn(0, 0), -1);
        x = two();
        due("night without spoons", x.night(1, 20), 0);
        due("drawn as it is", x.drawn(0, 0), 100);
        x.size(1);
        x.size(2);
        due("night seed -1", x.night(-1, 1), -1);
        due("night seed 1000001", x.night(1_000_001, 1), -1);
        due("night n 0", x.night(1, 0), -1);
        due("night n 21", x.night(1, 21), -1);
        // 7, then 20066, 145077, 31796: from 0, to 1, the first spoon
        due("night 7", x.night(7, 1), 1);
        due("drawn 1 0", x.drawn(1, 0), 16);
        due("drawn 0 0", x.drawn(0, 0), 100);
        due("on paper", x.of(0, 1), 5);
        due("night 7 of two", x.night(7, 2), 1);
        due("night 7 of three", x.night(7, 3), 2);
        due("night 7 of twenty", x.night(7, 20), 7);
        due("night 7 of one", x.night(7, 1), 1);
        due("a refused night is not the latest", x.night(7, 21), -1);
        due("drawn still", x.drawn(1, 0), 16);
        due("drawn glass 2", x.drawn(2, 0), -1);
        due("drawn glass -1", x.drawn(-1, 0), -1);
        due("drawn stuff 4", x.drawn(0, 4), -1);
        due("drawn stuff -1", x.drawn(0, -1), -1);
        x.glass(5);
        due("drawn of a glass that came later", x.drawn(2, 0), -1);
        x.empty(1);
        due("drawn is kept", x.drawn(1, 0), 16);
        due("night largest", x.night(1_000_000, 20) >= 0 ? 1 : 0, 1);
        due("drawn of the third now", x.drawn(2, 0) >= 0 ? 1 : 0, 1);
    }

    // Promises 35, 36
    private static void images() {
        WineSpoon x = two();
        due("image 2", x.image(2), -1);
        due("image -1", x.image(-1), -1);
        due("back 2", x.back(2), -1);
        due("back -1", x.back(-1), -1);
        due("back to none", x.back(1), -2);
        x.size(3);
        x.tasting(0, 0, 100);
        x.wine(10, 20, 3);
        x.spoon(0, 1, 1);
        x.lick(1, 1);
        due("image 1", x.image(1), 0);
        due("back to the other", x.back(0), -2);
        x.glass(7);
        x.empty(1);
        x.size(4);
        x.tasting(1, 1, 3);
        x.drink(0);
        x.night(7, 3);
        due("a fault", Check.evening(x, "  x"), -6);
        Check.tell(x, "\0\1\0");
        x.row();
        Check.tell(x, "left");
        due("image 0", x.image(0), 0);
        due("back", x.back(1), 0);
        due("glasses", x.count(0), 2);
        due("spoons", x.count(1), 1);
        due("tastings", x.count(2), 1);
        due("wines", x.count(3), 1);
        due("the wine", x.mix(1, 10, 0), 20);
        due("lower", x.lower(), 6);
        due("full", x.of(1, 1), 5);
        due("part", x.part(1, 0), 5);
        due("not the tape", x.count(4), 4);
        due("not the fault", x.fault(), 2);
        due("not the spilt", x.spilt(), 1);
        due("not the night", x.drawn(2, 0), 0);
        due("not the calls refused", x.count(9), 1);
        due("images stay", x.back(0), 0);
        due("glasses then", x.count(0), 3);
        due("a third, empty", x.of(2, 1), 0);
        due("back again", x.back(1), 0);
        x.glass(60);
        due("a glass that comes anew is empty", x.of(2, 1), 0);
        due("of a size of its own", x.of(2, 0), 60);
        x.fill(2, 3, 9);
        x.back(1);
        x.glass(60);
        due("and has nothing in it", x.part(2, 3), 0);
        due("a stop", Check.evening(x, "lick 60 from 0"), -3);
        x.back(1);
        due("not where it stopped", x.stopped(), 0);
        fullImage();
    }

    private static void fullImage() {
        WineSpoon x = new WineSpoon();
        for (int k = 0; k < 6; k++) {
            x.glass(10 + k);
            x.fill(k, 3, 5 + k);
            x.wine(10 * k, k, 1);
        }
        for (int k = 0; k < 6; k++) {
            due("tasting", x.tasting(k, 3, 100), k + 1);
        }
        x.size(1);
        x.size(2);
        x.size(3);
        x.image(0);
        for (int k = 0; k < 6; k++) {
            x.empty(k);
            x.drink(0);
        }
        x.wash();
        for (int k = 0; k < 6; k++) {
            x.wine(1, 1, 1);
            x.tasting(0, 0, 50);
        }
        x.size(60);
        due("back", x.back(0), 0);
        due("full of the last", x.of(5, 1), 10);
        due("part of the last", x.part(5, 3), 10);
        due("the last wine", x.mix(1, 50, 6), 1);
        due("the last spoon", x.count(12), 3);
        due("all tastings", x.fits(0, -1, 0), 1);
        due("still kept", x.back(0), 0);
        due("all tastings again", x.fits(0, -1, 0), 1);
    }

    // Promises 37, 38
    private static void countAndStatus() {
        WineSpoon x = new WineSpoon();
        due("count -1", x.count(-1), -1);
        due("count 13", x.count(13), -1);
        due("count most", x.count(MOST), -1);
        due("count least", x.count(LEAST), -1);
        due("status ahead of any", x.status(), 0);
        x.of(9, 9);
        x.taste(9, 9);
        x.cask(0, 0, 0, 0);
        x.end(9);
        due("what answers NONE is not refused", x.count(5), 0);
        due("nor is it a status", x.status(), 0);
        x.glass(0);
        due("status of glass", x.status(), -1);
        x.fill(0, 0, 1);
        due("status of fill", x.status(), -2);
        x.glass(5);
        due("status of a glass that came", x.status(), 0);
        x.spoon(0, 0, 1);
        due("status of spoon", x.status(), -3);
        x.lick(1, 1);
        due("status of lick", x.status(), -2);
        x.empty(0);
        due("status of empty", x.status(), 0);
        x.row();
        due("status of row", x.status(), -6);
        x.size(9);
        due("status of size", x.status(), 0);
        x.evening();
        due("status of evening", x.status(), -6);
        x.tasting(3, 0, 0);
        due("status of tasting", x.status(), -2);
        x.wash();
        x.feed(0, 0, 0, 0, 0);
        due("status is not that of wash or feed", x.status(), -2);
        x.wine(0, 0, -1);
        due("status of wine", x.status(), -1);
        x.drink(0);
        due("status of drink", x.status(), -2);
        x.night(0, 0);
        due("status of night", x.status(), -1);
        x.image(0);
        due("status of image", x.status(), 0);
        x.back(1);
        due("status of back", x.status(), -2);
        x.back(0);
        due("status of a back that was", x.status(), 0);
        x.size(7);
        x.size(8);
        due("refused by -1", x.count(5), 3);
        due("refused by -2", x.count(6), 5);
        due("refused by -3", x.count(7), 1);
        due("refused by -5", x.count(8), 0);
        due("refused by -6", x.count(9), 2);
        due("size of spoon 0", x.count(10), 7);
        due("size of spoon 1", x.count(11), 8);
        due("size of spoon 2", x.count(12), -1);
        due("bytes", x.count(4), 20);
        for (int k = 0; k < 6; k++) {
            x.glass(9);
        }
        due("status of a seventh", x.status(), -5);
        due("refused by -5 then", x.count(8), 1);
    }
}
