/** The sentences of the document's "Terms" I to IV, each at its edges; EveningEdgesTest has those of an evening. */
public final class TermsTest {
    public static void main(String[] args) {
        tasteIsCut();
        tasteInAnEmptyOne();
        amountsThatJustCanBe();
        stirred();
        licked();
        filled();
        alikeAtTheEdges();
        bothAsSpooned();
        unlikeByAtMost();
        movesAmongThreeGlasses();
        movesByEachSpoon();
        fewestMoves();
        asNearAsTold();
        firstAsARow();
        tastingsJustSo();
        tastingsOfAllGlasses();
        caskByGuests();
        lessThanSoMuch();
        rinsingInGoes();
        mixesJustAsStrong();
        mixesAsCheapAsCanBe();
        mixesLessAhead();
        winesMoveUp();
        cardsCounted();
        nightsByDraws();
        nightsOnPaper();
        rowsOneByOne();
        rowsOfFourStuffs();
        Check.close();
    }

    private static void due(String call, long got, long want) {
        Check.due(call, got, want);
    }

    private static WineSpoon glasses(int... sizes) {
        WineSpoon x = new WineSpoon();
        for (int size : sizes) {
            x.glass(size);
        }
        return x;
    }

    // ---- I

    private static void tasteIsCut() {
        for (int full = 1; full <= 60; full++) {
            for (int of : new int[] {0, 1, full / 2, full - 1, full}) {
                WineSpoon x = glasses(60);
                x.fill(0, 1, of);
                x.fill(0, 2, full - of);
                due("taste of " + of + " in " + full, x.taste(0, 1), of * 100 / full);
                due("taste of the rest in " + full, x.taste(0, 2), (full - of) * 100 / full);
            }
        }
        // a fraction of a hundredth is none, and nearly all is not all
        WineSpoon x = glasses(60, 60);
        x.fill(0, 0, 1);
        x.fill(0, 1, 59);
        x.spoon(0, 1, 1);
        x.fill(1, 1, 59);
        due("a sixtieth of a sixtieth", x.taste(1, 0), 0);
        due("it is there", x.part(1, 0) > 0 ? 1 : 0, 1);
        due("all but that", x.taste(1, 1), 99);
    }

    private static void tasteInAnEmptyOne() {
        WineSpoon x = glasses(5);
        for (int stuff = 0; stuff < 4; stuff++) {
            due("taste in an empty one", x.taste(0, stuff), 0);
            x.fill(0, stuff, 5);
            due("taste of all", x.taste(0, stuff), 100);
            x.empty(0);
            due("taste in an emptied one", x.taste(0, stuff), 0);
        }
        x.fill(0, 2, 5);
        x.lick(0, 5);
        due("taste in one that was licked out", x.taste(0, 2), 0);
    }

    // ---- II, moves

    private static void amountsThatJustCanBe() {
        WineSpoon x = glasses(60, 60, 7);
        due("fill just all the room", x.fill(0, 0, 60), 60);
        due("fill one more", x.fill(0, 0, 1), -3);
        due("spoon as much as it has", x.spoon(0, 1, 60), 60);
        due("it is empty", x.of(0, 1), 0);
        due("fill seven but one", x.fill(2, 1, 6), 6);
        due("spoon two where one has room", x.spoon(1, 2, 2), -3);
        due("spoon one", x.spoon(1, 2, 1), 7);
        due("spoon one more", x.spoon(1, 2, 1), -3);
        due("spoon seven of seven", x.spoon(2, 0, 7), 7);
        due("spoon eight of seven", x.spoon(0, 2, 8), -3);
        due("lick eight of seven", x.lick(0, 8), -3);
        due("lick seven of seven", x.lick(0, 7), 0);
        due("lick one of none", x.lick(0, 1), -3);
        due("lick the most", x.lick(1, 59), 0);
        x = glasses(1, 1);
        due("the smallest glass", x.fill(0, 3, 1), 1);
        due("spooned whole", x.spoon(0, 1, 1), 1);
        due("two into it", x.fill(0, 3, 2), -3);
        x = glasses(60, 60);
        x.fill(0, 0, 60);
        due("lick sixty", x.lick(0, 60), 0);
    }

    private static void stirred() {
        WineSpoon x = glasses(20, 20);
        for (int stuff = 0; stuff < 4; stuff++) {
            x.fill(0, stuff, stuff + 1);
        }
        due("spoon half of it", x.spoon(0, 1, 5), 5);
        for (int stuff = 0; stuff < 4; stuff++) {
            due("half of stuff " + stuff, x.part(1, stuff), stuff + 1);
            due("half is left of stuff " + stuff, x.part(0, stuff), stuff + 1);
            due("as strong in both", x.alike(0, 1, stuff), 1);
        }
        due("halves", x.lower(), 2);
        // what comes in is added to what is there
        x.fill(1, 3, 5);
        due("spoon back", x.spoon(1, 0, 5), 10);
        due("stuff 3 in the one", x.part(1, 3), 14);
        due("stuff 3 in the other", x.part(0, 3), 22);
        due("fourths", x.lower(), 4);
    }

    private static void licked() {
        WineSpoon x = glasses(20, 20);
        for (int stuff = 0; stuff < 4; stuff++) {
            x.fill(0, stuff, stuff + 1);
        }
        x.fill(1, 0, 3);
        due("lick half of it", x.lick(0, 5), 5);
        for (int stuff = 0; stuff < 4; stuff++) {
            due("half is left of stuff " + stuff, x.part(0, stuff), stuff + 1);
        }
        due("it is gone, not elsewhere", x.of(1, 1), 3);
        due("as there was", x.part(1, 0), 6);
    }

    private static void filled() {
        WineSpoon x = glasses(60, 60, 60, 60, 60, 60);
        for (int g = 0; g < 6; g++) {
            for (int stuff = 0; stuff < 4; stuff++) {
                due("fill", x.fill(g, stuff, 10 + g), (10 + g) * (stuff + 1));
            }
            x.empty(g);
            due("fill the last stuff of the last glass", x.fill(g, 3, g + 1), g + 1);
        }
        for (int g = 0; g < 6; g++) {
            for (int stuff = 0; stuff < 4; stuff++) {
                due("nothing came elsewhere", x.part(g, stuff), stuff == 3 ? g + 1 : 0);
            }
        }
    }

    private static void alikeAtTheEdges() {
        WineSpoon x = glasses(60, 60, 60);
        due("two empty ones", x.alike(0, 1, 3), 1);
        x.fill(0, 0, 1);
        due("one has all, the other none", x.alike(0, 1, 0), 0);
        due("the other way", x.alike(1, 0, 0), 0);
        due("neither has it", x.alike(0, 1, 1), 1);
        due("neither has it, the other way", x.alike(1, 0, 1), 1);
        x.fill(1, 0, 60);
        due("one and sixty of it alone", x.alike(0, 1, 0), 1);
        x.fill(2, 0, 59);
        x.fill(2, 1, 1);
        due("nearly", x.alike(1, 2, 0), 0);
        due("the same one", x.alike(2, 2, 0), 1);
        x.empty(1);
        x.fill(1, 0, 1);
        x.fill(1, 1, 1);
        due("all and a half", x.alike(0, 1, 0), 0);
        // as strong does not mean as tasted: both taste of 33
        x = glasses(60, 60);
        x.fill(0, 0, 1);
        x.fill(0, 1, 2);
        x.fill(1, 0, 20);
        x.fill(1, 1, 39);
        due("the same taste", x.taste(0, 0) - x.taste(1, 0), 0);
        due("and not alike", x.alike(0, 1, 0), 0);
    }

    // ---- III

    /** The fraction is the one that comes of spooning, whatever the glasses hold. */
    private static void bothAsSpooned() {
        int[][] cases = {{2, 1}, {5, 2}, {6, 2}, {10, 9}, {30, 30 - 1}, {30, 1}, {12, 6}};
        for (int[] c : cases) {
            WineSpoon x = glasses(60, 60);
            x.fill(0, 0, c[0]);
            x.fill(1, 1, c[0]);
            for (int n = 0; n <= 6; n++) {
                String name = "both " + c[0] + " " + c[1] + " " + n;
                long up = x.both(c[0], c[1], n, 0);
                long low = x.both(c[0], c[1], n, 1);
                due(name + " as spooned", (x.part(0, 0) - x.part(1, 0)) * low, up * x.lower() * c[0]);
                due(name + " in lowest terms", divisor(up, low), 1);
                x.spoon(0, 1, c[1]);
                x.spoon(1, 0, c[1]);
            }
        }
        WineSpoon x = new WineSpoon();
        // a spoon of 59 in 60: there is no glass of 119, and it does not matter
        due("both 60 59 1", x.both(60, 59, 1, 0) * 1000 + x.both(60, 59, 1, 1), 1119);
        due("both 60 1 6, lower", x.both(60, 1, 6, 1), 61L * 61 * 61 * 61 * 61 * 61);
        due("both 60 1 6, upper", x.both(60, 1, 6, 0), 59L * 59 * 59 * 59 * 59 * 59);
        due("both after none", x.both(60, 59, 0, 0) * 10 + x.both(60, 59, 0, 1), 11);
    }

    private static long divisor(long a, long b) {
        return b == 0 ? a : divisor(b, a % b);
    }

    private static void unlikeByAtMost() {
        WineSpoon x = new WineSpoon();
        // by halves: 100, 50, 25, 12 and a half, 6 and a fourth, 3 and an eighth, 1 and nine sixteenths
        int[] hundredths = {100, 99, 50, 49, 25, 24, 13, 12, 7, 6, 4, 3, 2, 1, 0};
        int[] rounds = {0, 1, 1, 2, 2, 3, 3, 4, 4, 5, 5, 6, 6, -1, -1};
        for (int k = 0; k < hundredths.length; k++) {
            due("rounds by halves " + hundredths[k], x.rounds(3, 1, hundredths[k]), rounds[k]);
        }
        due("rounds of a small spoon", x.rounds(60, 1, 82), 6);
        due("rounds of a small spoon, not after 6", x.rounds(60, 1, 81), -1);
    }

    /** Glasses 0 to 5 of 10, five of stuff 0 in each; a spoon of one. */
    private static WineSpoon sixWithOneSpoon() {
        WineSpoon x = glasses(10, 10, 10, 10, 10, 10);
        for (int g = 0; g < 6; g++) {
            x.fill(g, 0, 5);
        }
        x.size(1);
        return x;
    }

    private static void movesAmongThreeGlasses() {
        WineSpoon x = sixWithOneSpoon();
        due("six moves among three glasses", x.fits(1, -1, 0), 6);
        due("thirty-six rows of two", x.fits(2, -1, 0), 36);
        due("rows of three", x.fits(3, -1, 0), 216);
        due("the first from", x.fits(1, 0, 1), 0);
        due("the first to", x.fits(1, 0, 2), 1);
        // glasses 3 to 5 are as they are, whatever is spooned
        x.fill(3, 1, 5);
        due("no other strength in glass 3", x.reach(3, 0, 100, 0, -1, 0), -1);
        due("its own one", x.reach(3, 0, 50, 0, -1, 0), 0);
        for (int g = 0; g < 3; g++) {
            x.empty(g);
        }
        due("what glasses 3 to 5 have is not spooned", x.fits(1, -1, 0), 0);
        x = glasses(10, 10);
        x.fill(0, 0, 5);
        x.fill(1, 0, 5);
        x.size(1);
        due("two moves among two glasses", x.fits(1, -1, 0), 2);
        x = glasses(10);
        x.fill(0, 0, 5);
        x.size(1);
        due("none in a glass alone", x.fits(1, -1, 0), 0);
        due("no glasses, no move: one row", new WineSpoon().fits(0, -1, 0), 1);
    }

    private static void movesByEachSpoon() {
        WineSpoon x = sixWithOneSpoon();
        x.size(2);
        x.size(5);
        due("three spoons", x.fits(1, -1, 0), 18);
        x.empty(0);
        // spoon 2 takes all of glass 1 over to glass 0, then back
        x.tasting(0, 0, 100);
        x.tasting(1, 0, 0);
        due("only the largest one empties it", x.fits(1, -1, 0), 1);
        due("spoon 2", x.fits(1, 0, 0), 2);
        due("from 1", x.fits(1, 0, 1), 1);
        due("to 0", x.fits(1, 0, 2), 0);
        due("washed", x.wash(), 5);
        due("no spoons are left, whatever they were", x.fits(1, -1, 0), 0);
        x.size(60);
        due("nor does one of 60 move anything", x.fits(1, -1, 0), 0);
        due("a spoon as large as what is there", x.size(5), 1);
        due("moves it", x.fits(1, -1, 0), 4);
        x.size(5);
        due("two of a size are two rows", x.fits(1, -1, 0), 8);
    }

    /** Ten of stuff 0, ten of stuff 1, and a third glass that is empty; a spoon of 4. */
    private static WineSpoon reached() {
        WineSpoon x = glasses(20, 20, 20);
        x.fill(0, 0, 10);
        x.fill(1, 1, 10);
        x.size(4);
        return x;
    }

    private static void fewestMoves() {
        WineSpoon x = reached();
        due("by none", x.reach(0, 0, 100, 0, -1, 0), 0);
        due("by one", x.reach(2, 0, 100, 0, -1, 0), 1);
        due("by two", x.reach(2, 0, 50, 0, -1, 0), 2);
        due("by three: 8 of 0 and 4 of 1", x.reach(2, 0, 67, 1, -1, 0), 3);
        due("not by three", x.reach(2, 0, 75, 0, -1, 0), -1);
        due("not by three, no i-th", x.reach(2, 0, 75, 0, 0, 0), -1);
        // an empty one has no strength, 0 neither
        due("0 in an empty one is by a move", x.reach(2, 0, 0, 0, -1, 0), 1);
        due("from the one without it", x.reach(2, 0, 0, 0, 0, 1), 1);
        due("all is near enough, but there must be some", x.reach(2, 0, 50, 100, -1, 0), 1);
        x.wash();
        due("without spoons as it is", x.reach(0, 0, 100, 0, -1, 0), 0);
        due("without spoons an empty one", x.reach(2, 0, 50, 100, -1, 0), -1);
        // a glass that is emptied on the way out is not reached
        x = glasses(5, 5);
        x.fill(0, 0, 5);
        x.size(5);
        due("emptied", x.reach(0, 0, 0, 0, -1, 0), -1);
        due("nothing was moved", x.of(0, 1), 5);
    }

    private static void asNearAsTold() {
        WineSpoon x = glasses(60);
        x.fill(0, 0, 1);
        x.fill(0, 1, 2);
        // a third is 33 and a third hundredths, not the 33 that it tastes of
        due("33, just", x.reach(0, 0, 33, 0, -1, 0), -1);
        due("33 within 1", x.reach(0, 0, 33, 1, -1, 0), 0);
        due("34 within 0", x.reach(0, 0, 34, 0, -1, 0), -1);
        due("34 within 1", x.reach(0, 0, 34, 1, -1, 0), 0);
        due("32 within 1", x.reach(0, 0, 32, 1, -1, 0), -1);
        due("35 within 1", x.reach(0, 0, 35, 1, -1, 0), -1);
        due("35 within 2", x.reach(0, 0, 35, 2, -1, 0), 0);
        x.empty(0);
        x.fill(0, 0, 1);
        x.fill(0, 1, 1);
        due("40 within 10 is just so", x.reach(0, 0, 40, 10, -1, 0), 0);
        due("40 within 9 is not", x.reach(0, 0, 40, 9, -1, 0), -1);
        due("60 within 10 is just so", x.reach(0, 0, 60, 10, -1, 0), 0);
        due("60 within 9 is not", x.reach(0, 0, 60, 9, -1, 0), -1);
        due("0 within 50", x.reach(0, 0, 0, 50, -1, 0), 0);
        due("0 within 49", x.reach(0, 0, 0, 49, -1, 0), -1);
        due("100 within 50", x.reach(0, 0, 100, 50, -1, 0), 0);
        due("100 within 49", x.reach(0, 0, 100, 49, -1, 0), -1);
    }

    private static void firstAsARow() {
        WineSpoon x = reached();
        x.size(2);
        int[][] row = {{0, 0, 2}, {0, 1, 2}};
        for (int i = 0; i < 2; i++) {
            for (int what = 0; what < 3; what++) {
                due("first row of two", x.reach(2, 0, 50, 0, i, what), row[i][what]);
            }
        }
        // both spoons reach it; the first of them, then the first from, the first to
        due("by the first spoon", x.reach(2, 1, 100, 0, 0, 0) * 100 + x.reach(2, 1, 100, 0, 0, 1) * 10 + x.reach(2, 1, 100, 0, 0, 2), 12);
        x = reached();
        due("rows of three", x.reach(2, 0, 67, 1, -1, 0), 3);
        int[] three = {0, 0, 2, 0, 0, 2, 0, 1, 2};
        for (int k = 0; k < three.length; k++) {
            due("first row of three", x.reach(2, 0, 67, 1, k / 3, k % 3), three[k]);
        }
        // the same by what fits: 8 of 12
        x.tasting(2, 0, 66);
        due("three orders of it, and no others", x.fits(3, -1, 0), 3);
        for (int k = 0; k < three.length; k++) {
            due("first row that fits", x.fits(3, k / 3, k % 3), three[k]);
        }
    }

    private static void tastingsJustSo() {
        WineSpoon x = glasses(60);
        x.fill(0, 0, 1);
        x.fill(0, 1, 2);
        x.tasting(0, 0, 33);
        due("a third tastes of 33", x.fits(0, -1, 0), 1);
        x.wash();
        x.tasting(0, 0, 34);
        due("not of 34", x.fits(0, -1, 0), 0);
        x.wash();
        x.tasting(0, 0, 32);
        due("nor of 32", x.fits(0, -1, 0), 0);
        x.wash();
        x.tasting(0, 1, 66);
        x.tasting(0, 2, 0);
        due("all of them", x.fits(0, -1, 0), 1);
        x.tasting(0, 3, 1);
        due("not if one is not so", x.fits(0, -1, 0), 0);
        due("then no row is the first", x.fits(0, 0, 0), -1);
        // in the end, not on the way: over and back
        x = glasses(5, 5);
        x.fill(0, 0, 5);
        x.size(5);
        x.tasting(0, 0, 100);
        due("by none", x.fits(0, -1, 0), 1);
        due("by one it is gone", x.fits(1, -1, 0), 0);
        due("by two it is back", x.fits(2, -1, 0), 1);
        due("by three it is gone again", x.fits(3, -1, 0), 0);
        x.wash();
        x.size(5);
        x.tasting(0, 0, 0);
        due("an empty one tastes of 0", x.fits(1, -1, 0), 1);
        due("the tasted taste changes nothing", x.taste(0, 0), 100);
    }

    private static void tastingsOfAllGlasses() {
        WineSpoon x = sixWithOneSpoon();
        for (int g = 0; g < 6; g++) {
            due("tasting of glass " + g, x.tasting(g, 0, 100), g + 1);
        }
        due("all six", x.fits(0, -1, 0), 1);
        x.empty(5);
        due("the sixth counts", x.fits(0, -1, 0), 0);
        x.fill(5, 1, 1);
        due("still not", x.fits(3, -1, 0), 0);
    }

    private static void caskByGuests() {
        WineSpoon x = new WineSpoon();
        int[][] cases = {{1, 0}, {1, 1}, {60, 1}, {60, 59}, {60, 60}, {60, 0}, {12, 9}};
        for (int[] c : cases) {
            long up = 1;
            long low = 1;
            for (int n = 0; n <= 6; n++) {
                String name = "cask " + c[0] + " " + c[1] + " " + n;
                due(name + " as told", x.cask(c[0], c[1], n, 0) * low, x.cask(c[0], c[1], n, 1) * up);
                due(name + " in lowest terms", divisor(x.cask(c[0], c[1], n, 0), x.cask(c[0], c[1], n, 1)), 1);
                up = up * (c[0] - c[1]);
                low = low * c[0];
                long by = divisor(up, low);
                up = up / by;
                low = low / by;
            }
        }
        due("nothing is left over one", x.cask(60, 60, 6, 0) * 10 + x.cask(60, 60, 6, 1), 1);
        due("all is left by none", x.cask(60, 60, 0, 0) * 10 + x.cask(60, 60, 0, 1), 11);
    }

    private static void lessThanSoMuch() {
        WineSpoon x = new WineSpoon();
        // by halves; just as many hundredths are not less
        int[] hundredths = {100, 51, 50, 26, 25, 13, 12, 7, 6, 4, 3, 2, 1, 0};
        int[] guests = {1, 1, 2, 2, 3, 3, 4, 4, 5, 5, 6, 6, -1, -1};
        for (int k = 0; k < hundredths.length; k++) {
            due("guests by halves " + hundredths[k], x.guests(2, 1, hundredths[k]), guests[k]);
        }
        due("all drawn: nothing is left", x.guests(60, 60, 1), 1);
        due("nothing is not less than nothing", x.guests(60, 60, 0), -1);
        due("none drawn: all is left", x.guests(60, 0, 100), -1);
        due("little drawn", x.guests(60, 1, 100), 1);
        due("little drawn, by six", x.guests(60, 1, 91), 6);
        due("little drawn, not by six", x.guests(60, 1, 90), -1);
    }

    private static void rinsingInGoes() {
        WineSpoon x = new WineSpoon();
        for (int water = 0; water <= 60; water += water < 8 ? 1 : 13) {
            for (int goes = 1; goes <= 6; goes++) {
                long sum = 0;
                long ahead = 0;
                for (int i = 0; i < goes; i++) {
                    long go = x.rinse(4, water, goes, 2 + i);
                    due("less ahead, or alike but for one: " + water + " " + goes, go - ahead == 0 || i == 0 || go - ahead == 1 ? 1 : 0, 1);
                    sum += go;
                    ahead = go;
                }
                due("all of the water: " + water + " " + goes, sum, water);
            }
        }
        due("no water leaves all", x.rinse(9, 0, 6, 0) * 10 + x.rinse(9, 0, 6, 1), 11);
        due("no water, last go", x.rinse(9, 0, 6, 7), 0);
        due("one of water comes last", x.rinse(1, 1, 6, 7), 1);
        due("one of water leaves a half", x.rinse(1, 1, 6, 0) * 10 + x.rinse(1, 1, 6, 1), 12);
        due("60 in six goes, upper", x.rinse(9, 60, 6, 0), 531_441);
        due("60 in six goes, lower", x.rinse(9, 60, 6, 1), 47_045_881);
        due("59 in six goes, first", x.rinse(1, 59, 6, 2), 9);
        due("59 in six goes, second", x.rinse(1, 59, 6, 3), 10);
        due("59 in six goes, lower", x.rinse(1, 59, 6, 1), 1_610_510);
        due("60 in one go", x.rinse(1, 60, 1, 0) * 100 + x.rinse(1, 60, 1, 1), 161);
        due("lowest terms", x.rinse(6, 3, 1, 0) * 10 + x.rinse(6, 3, 1, 1), 23);
    }

    private static void mixesJustAsStrong() {
        WineSpoon x = new WineSpoon();
        x.wine(0, 2, 20);
        x.wine(100, 3, 20);
        due("water alone", x.mix(20, 0, 0), 40);
        due("water alone, how much", x.mix(20, 0, 1), 20);
        due("the strong one alone", x.mix(20, 100, 0), 60);
        due("the strong one alone, how much", x.mix(20, 100, 2), 20);
        due("one of it can be nothing between", x.mix(1, 50, 0), -1);
        due("one of water", x.mix(1, 0, 0), 2);
        due("one of the strong one", x.mix(1, 100, 0), 3);
        due("a twentieth", x.mix(20, 5, 2), 1);
        due("just below a twentieth", x.mix(20, 4, 0), -1);
        due("three of seven are not 42 hundredths, nor 43", x.mix(7, 42, 0) + x.mix(7, 43, 0), -2);
        due("not so: how much of the first", x.mix(7, 42, 1), -1);
    }

    private static void mixesAsCheapAsCanBe() {
        WineSpoon x = new WineSpoon();
        x.wine(50, 99, 20);
        due("as dear as can be", x.mix(20, 50, 0), 1980);
        x.wine(50, 0, 19);
        due("one of the dear ones is needed", x.mix(20, 50, 0), 99);
        due("that one", x.mix(20, 50, 1), 1);
        due("the others", x.mix(20, 50, 2), 19);
        due("for nothing", x.mix(19, 50, 0), 0);
        due("none of the dear ones", x.mix(19, 50, 1), 0);
        x.wine(50, 0, 0);
        due("of an amount of 0 there is none", x.mix(20, 50, 3), 0);
        x.wine(49, 0, 20);
        x.wine(51, 0, 20);
        due("two for nothing", x.mix(20, 50, 0), 0);
        due("none of the dear one then", x.mix(20, 50, 1), 0);
        // rows begin with none of wine 1, so all comes of the last two
        due("of the first cheap one", x.mix(20, 50, 2), 0);
        due("of 49", x.mix(20, 50, 4), 10);
        due("of 51", x.mix(20, 50, 5), 10);
    }

    private static void mixesLessAhead() {
        WineSpoon x = new WineSpoon();
        for (int k = 0; k < 6; k++) {
            due("wine " + k, x.wine(30, 5, 4), k);
        }
        due("the price", x.mix(10, 30, 0), 50);
        int[] row = {0, 0, 0, 2, 4, 4};
        for (int k = 0; k < 6; k++) {
            due("less ahead, wine " + k, x.mix(10, 30, 1 + k), row[k]);
        }
        due("all there is but four", x.mix(20, 30, 1), 0);
        due("the second then", x.mix(20, 30, 2), 4);
        x.drink(5);
        due("all there is", x.mix(20, 30, 1), 4);
        x.drink(0);
        due("not enough", x.mix(20, 30, 0), -1);
        due("just enough", x.mix(16, 30, 0), 80);
        due("one too many", x.mix(17, 30, 0), -1);
    }

    private static void winesMoveUp() {
        WineSpoon x = new WineSpoon();
        for (int k = 0; k < 6; k++) {
            x.wine(10 * k, 10 + k, 1);
        }
        due("the middle one goes", x.drink(2), 5);
        int[] strengths = {0, 10, 30, 40, 50};
        for (int k = 0; k < 5; k++) {
            due("wine " + k, x.mix(1, strengths[k], 1 + k), 1);
            due("its price", x.mix(1, strengths[k], 0), 10 + strengths[k] / 10);
        }
        due("the one that went", x.mix(1, 20, 0), -1);
        due("no sixth", x.mix(1, 0, 6), -1);
        due("the first goes", x.drink(0), 4);
        due("the last goes", x.drink(3), 3);
        due("what is the last now", x.mix(1, 40, 3), 1);
        due("another comes behind them", x.wine(70, 1, 1), 3);
        for (int left = 3; left >= 0; left--) {
            due("all go", x.drink(0), left);
        }
        due("none is there", x.drink(0), -2);
        due("nothing to mix", x.mix(1, 70, 0), -1);
    }

    private static void cardsCounted() {
        WineSpoon x = new WineSpoon();
        due("none moved", x.cards(20, 20, 0, 0, 0) * 10 + x.cards(20, 20, 0, 0, 1), 11);
        due("one of one, none there: it comes back", x.cards(1, 0, 1, 0, 0) * 10 + x.cards(1, 0, 1, 0, 1), 11);
        due("it can't stay", x.cards(1, 0, 1, 1, 0), 0);
        due("all of 20, none there", x.cards(20, 0, 20, 0, 0) * 10 + x.cards(20, 0, 20, 0, 1), 11);
        due("20 can't stay", x.cards(20, 0, 20, 20, 0), 0);
        due("all of 20 for all of 20", x.cards(20, 20, 20, 20, 0), 1);
        due("of all", x.cards(20, 20, 20, 20, 1), 137_846_528_820L);
        due("no red one stays", x.cards(20, 20, 20, 0, 0), 1);
        due("19 of 20 for 20", x.cards(20, 20, 19, 19, 0), 20 * 20);
        due("no red heap", x.cards(0, 20, 0, 0, 0) * 10 + x.cards(0, 20, 0, 0, 1), 11);
        for (int red = 0; red <= 20; red += 5) {
            for (int black = 0; black <= 20; black += 4) {
                for (int k = 0; k <= red; k++) {
                    long ways = 0;
                    for (int j = 0; j <= k; j++) {
                        ways += x.cards(red, black, k, j, 0);
                    }
                    due("all ways " + red + " " + black + " " + k, ways, x.cards(red, black, k, 0, 1));
                }
            }
        }
    }

    // ---- IV

    private static void nightsByDraws() {
        // 0: 12345, 628841, 621889, then 953857, 113460, 158350
        WineSpoon x = glasses(10, 10);
        x.fill(1, 3, 4);
        x.size(2);
        x.size(1);
        x.size(4);
        due("seed 0: from 1 to 1", x.night(0, 1), 0);
        due("then from 1 to 0 by spoon 1", x.night(0, 2), 1);
        due("as strong as it was", x.drawn(0, 3) + x.drawn(1, 3), 200);
        // 1,000,000: 9036, 979026, 874786, then 898411, 956708, 258104
        due("the largest seed: from 0 to 0", x.night(1_000_000, 1), 0);
        due("then from 1 to 0 by spoon 2, all of it", x.night(1_000_000, 2), 1);
        due("all of it", x.drawn(0, 3), 100);
        due("is gone here", x.drawn(1, 3), 0);
        // the draws go on where a move can't be: seed 7 by three glasses goes from 2 to 0, from 2 to 0, then from 2 to 2
        x = glasses(60, 60, 60);
        x.fill(2, 0, 1);
        x.fill(0, 1, 1);
        x.size(1);
        due("with one spoon", x.night(7, 1), 1);
        due("half of each", x.drawn(0, 0), 50);
        due("a second one can't be", x.night(7, 2), 1);
        // 12: from 0 to 2
        due("eleven", x.night(7, 11), 1);
        due("twelve", x.night(7, 12), 2);
        due("half of each there", x.drawn(2, 1), 50);
        due("one glass goes nowhere", oneGlass().night(7, 20), 0);
    }

    private static WineSpoon oneGlass() {
        WineSpoon x = glasses(60);
        x.fill(0, 0, 30);
        x.size(1);
        return x;
    }

    private static void nightsOnPaper() {
        WineSpoon x = glasses(60, 60, 60);
        x.fill(2, 0, 1);
        x.fill(0, 1, 1);
        x.size(1);
        due("ahead of any night", x.drawn(0, 0), -1);
        due("a night", x.night(7, 12), 2);
        due("what stands is as it was", x.of(0, 1) * 10_000 + x.of(1, 1) * 100 + x.of(2, 1), 10_001);
        due("its strengths too", x.taste(0, 1) + x.taste(2, 0), 200);
        due("lower too", x.lower(), 1);
        due("another night begins with what stands", x.night(7, 1), 1);
        due("as it did", x.drawn(0, 0), 50);
        latestNight();
        due("a night without glasses", new WineSpoon().night(7, 20), 0);
    }

    /** What is drawn is as it was behind the latest night, whatever came since. */
    private static void latestNight() {
        WineSpoon x = glasses(60, 60, 60);
        due("a night without spoons", x.night(7, 20), 0);
        due("is one of what stands", x.drawn(0, 0), 0);
        x.fill(0, 0, 9);
        due("then", x.drawn(0, 0), 0);
        due("until the next one", x.night(7, 1), 0);
        due("now", x.drawn(0, 0), 100);
        due("a refused one", x.night(7, 0), -1);
        x.empty(0);
        due("is not the latest", x.drawn(0, 0), 100);
        due("none is drawn of a fourth", x.drawn(3, 0), -1);
        x.glass(60);
        due("nor as soon as it is there", x.drawn(3, 0), -1);
        x.night(7, 1);
        due("but behind a night", x.drawn(3, 0), 0);
    }

    /** Puts five words on the tape and cuts them: bytes behind the end stay there and must not matter. */
    private static int row(WineSpoon x, int length, int... words) {
        x.feed(words[0], words[1], words[2], words[3], words[4]);
        x.end(length);
        return x.row();
    }

    private static void rowsOneByOne() {
        WineSpoon x = glasses(10, 20);
        due("a glass alone", row(x, 1, 0x01010101, 0x01010101, 0, 0, 0), 0);
        due("nothing spilt", x.spilt(), 0);
        due("nothing filled", x.of(1, 1), 0);
        due("one amount", row(x, 2, 0x01020304, 0x05060708, 0, 0, 0), 1);
        due("nothing spilt", x.spilt(), 0);
        due("of stuff 0", x.part(1, 0), 2);
        due("nothing of stuff 1", x.part(1, 1), 0);
        // 18 are left: 10 go in, 9 do not, 8 do
        due("what has room goes in", row(x, 4, 0x010a0908, 0x01000000, 0, 0, 0), 2);
        due("what has none is spilt", x.spilt(), 1);
        due("stuff 0", x.part(1, 0), 12);
        due("stuff 2", x.part(1, 2), 8);
        due("it is full", x.of(1, 1), 20);
        due("one is too many", row(x, 2, 0x01010000, 0, 0, 0, 0), 0);
        due("it is spilt", x.spilt(), 1);
        due("amounts of 0 are none", row(x, 5, 0, 0, 0, 0, 0), 0);
        due("and spilt", x.spilt(), 4);
        due("the whole of a glass", row(x, 2, 0x000a0000, 0, 0, 0, 0), 1);
        due("full", x.of(0, 1), 10);
        x = glasses(60);
        due("61 is no amount", row(x, 3, 0x003d3c00, 0, 0, 0, 0), 1);
        due("spilt", x.spilt(), 1);
        due("60 is", x.part(0, 1), 60);
        due("255 is none", row(x, 2, 0x00ff0000, 0, 0, 0, 0), 0);
    }

    private static void rowsOfFourStuffs() {
        WineSpoon x = glasses(60, 60, 60, 60, 60, 60);
        due("four and a fifth", row(x, 6, 0x05010203, 0x04010000, 0, 0, 0), 4);
        due("the fifth is spilt", x.spilt(), 1);
        due("the fourth is stuff 3", x.part(5, 3), 4);
        due("all", x.of(5, 1), 10);
        due("four", row(x, 5, 0x00010203, 0x04010000, 0, 0, 0), 4);
        due("none is spilt", x.spilt(), 0);
        for (int k = 0; k < 20; k++) {
            x.feed(0x01010101, 0x01010101, 0x01010101, 0x01010101, 0x01010101);
        }
        due("a whole tape", x.row(), 4);
        due("spilt of a whole tape", x.spilt(), 395);
        due("the tape is empty", x.count(4), 0);
        due("no glass 6", row(x, 2, 0x06010000, 0, 0, 0, 0), -6);
        due("spilt as ahead", x.spilt(), 395);
        due("the tape is empty then, too", x.count(4), 0);
        due("an empty tape", x.row(), -6);
    }
}
