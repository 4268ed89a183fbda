import java.util.Random;

/** Mixes of whole cellars by draws, against all rows gone through one by one without anything clever. */
public final class MixTest {
    private static final int CELLARS = 400;
    private static final int MIXES = 6;

    private final int[][] wines;
    private final int[] row;
    private int[] bestRow;
    private int bestPrice;

    private MixTest(int[][] wines) {
        this.wines = wines;
        this.row = new int[wines.length];
    }

    public static void main(String[] args) {
        Random random = new Random(20261118);
        for (int n = 0; n < CELLARS; n++) {
            new MixTest(cellar(random)).askMixes(random, "cellar " + n);
        }
        equallyDear();
        eachRowCheaper();
        Check.close();
    }

    /** Few strengths and few prices, so that many mixes are as strong and as dear as one another. */
    private static int[][] cellar(Random random) {
        int[][] wines = new int[random.nextInt(7)][];
        int step = new int[] {1, 5, 10, 25, 50}[random.nextInt(5)];
        int prices = new int[] {1, 2, 5, 100}[random.nextInt(4)];
        int most = new int[] {3, 8, 20}[random.nextInt(3)];
        for (int k = 0; k < wines.length; k++) {
            wines[k] = new int[] {step * random.nextInt(100 / step + 1), random.nextInt(prices), random.nextInt(most + 1)};
        }
        return wines;
    }

    private void askMixes(Random random, String name) {
        WineSpoon x = new WineSpoon();
        for (int[] wine : wines) {
            x.wine(wine[0], wine[1], wine[2]);
        }
        for (int n = 0; n < MIXES; n++) {
            int amount = n == 0 ? 20 : 1 + random.nextInt(20);
            int strength = n == 1 ? random.nextInt(101) : 5 * random.nextInt(21);
            ask(x, name, amount, strength);
        }
    }

    private void ask(WineSpoon x, String name, int amount, int strength) {
        bestRow = null;
        bestPrice = WineSpoon.NONE;
        goThrough(0, amount, amount * strength, 0);
        String call = name + ": mix " + amount + " " + strength + " ";
        Check.due(call + 0, x.mix(amount, strength, 0), bestPrice);
        for (int k = 0; k < wines.length; k++) {
            Check.due(call + (1 + k), x.mix(amount, strength, 1 + k), bestRow == null ? WineSpoon.NONE : bestRow[k]);
        }
        Check.due(call + "behind the last one", x.mix(amount, strength, 1 + wines.length), WineSpoon.NONE);
    }

    private void goThrough(int wine, int amountLeft, int strengthLeft, int price) {
        if (wine == wines.length) {
            if (amountLeft == 0 && strengthLeft == 0 && (bestRow == null || price < bestPrice)) {
                bestRow = row.clone();
                bestPrice = price;
            }
            return;
        }
        for (row[wine] = 0; row[wine] <= Math.min(amountLeft, wines[wine][2]); row[wine]++) {
            int taken = row[wine];
            goThrough(wine + 1, amountLeft - taken, strengthLeft - taken * wines[wine][0], price + taken * wines[wine][1]);
        }
    }

    private static void equallyDear() {
        int[][] wines = {{50, 7, 20}, {50, 7, 20}, {40, 7, 20}, {60, 7, 20}, {50, 7, 20}, {50, 7, 3}};
        new MixTest(wines).askMixes(new Random(1), "equally dear");
    }

    /** The dearest last: the first row is the dearest one, and each later one of one wine less is cheaper. */
    private static void eachRowCheaper() {
        int[][] wines = {{50, 1, 20}, {50, 2, 20}, {50, 3, 20}, {50, 50, 20}, {50, 98, 20}, {50, 99, 20}};
        MixTest test = new MixTest(wines);
        WineSpoon x = new WineSpoon();
        for (int[] wine : wines) {
            x.wine(wine[0], wine[1], wine[2]);
        }
        for (int amount = 1; amount <= 20; amount++) {
            test.ask(x, "each row cheaper", amount, 50);
        }
    }
}
