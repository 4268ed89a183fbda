import java.math.BigInteger;
import java.util.ArrayList;
import java.util.Arrays;
import java.util.List;

/**
 * The document once more, as slowly and plainly as can be: whole fractions, every row of moves tried one by one,
 * evenings run by small trees. It shares no code with the class and is only for comparing answers.
 */
final class Model {
    static final BigInteger MOST_LOWER = BigInteger.valueOf(100_000_000_000_000L);

    /** A fraction in lowest terms. */
    static final class Frac {
        final BigInteger up;
        final BigInteger low;

        Frac(BigInteger up, BigInteger low) {
            BigInteger g = up.gcd(low);
            this.up = up.divide(g);
            this.low = low.divide(g);
        }

        static Frac of(long up, long low) {
            return new Frac(BigInteger.valueOf(up), BigInteger.valueOf(low));
        }

        Frac plus(Frac o) {
            return new Frac(up.multiply(o.low).add(o.up.multiply(low)), low.multiply(o.low));
        }

        Frac minus(Frac o) {
            return plus(new Frac(o.up.negate(), o.low));
        }

        Frac times(long n, long m) {
            return new Frac(up.multiply(BigInteger.valueOf(n)), low.multiply(BigInteger.valueOf(m)));
        }

        int compareTo(Frac o) {
            return up.multiply(o.low).compareTo(o.up.multiply(low));
        }

        Frac abs() {
            return new Frac(up.abs(), low);
        }
    }

    static final Frac ZERO = Frac.of(0, 1);

    /** The glasses: never changed, each move makes a new one. */
    static final class Glasses {
        final List<Integer> sizes = new ArrayList<>();
        final List<Frac[]> stuffs = new ArrayList<>();

        Glasses copy() {
            Glasses c = new Glasses();
            c.sizes.addAll(sizes);
            for (Frac[] s : stuffs) {
                c.stuffs.add(s.clone());
            }
            return c;
        }

        boolean has(int g) {
            return g >= 0 && g < sizes.size();
        }

        int full(int g) {
            Frac all = ZERO;
            for (Frac f : stuffs.get(g)) {
                all = all.plus(f);
            }
            if (!all.low.equals(BigInteger.ONE)) {
                throw new IllegalStateException("full is not whole");
            }
            return all.up.intValueExact();
        }

        BigInteger lower() {
            BigInteger l = BigInteger.ONE;
            for (Frac[] s : stuffs) {
                for (Frac f : s) {
                    l = l.multiply(f.low).divide(l.gcd(f.low));
                }
            }
            return l;
        }

        Frac strength(int g, int s) {
            int full = full(g);
            return full == 0 ? ZERO : stuffs.get(g)[s].times(1, full);
        }

        int taste(int g, int s) {
            Frac f = strength(g, s).times(100, 1);
            return f.up.divide(f.low).intValueExact();
        }

        /** Null if it can't be; numbers aside. */
        Glasses filled(int g, int s, long amount) {
            if (!has(g) || s < 0 || s > 3 || amount < 1 || amount > 60 || full(g) + amount > sizes.get(g)) {
                return null;
            }
            Glasses c = copy();
            c.stuffs.get(g)[s] = c.stuffs.get(g)[s].plus(Frac.of(amount, 1));
            return c;
        }

        Glasses licked(int g, long amount) {
            if (!has(g) || amount < 1 || amount > 60 || full(g) < amount) {
                return null;
            }
            Glasses c = copy();
            for (int s = 0; s < 4; s++) {
                c.stuffs.get(g)[s] = stuffs.get(g)[s].minus(strength(g, s).times(amount, 1));
            }
            return c;
        }

        Glasses spooned(int from, int to, long amount) {
            if (from == to || !has(to)) {
                return null;
            }
            Glasses c = licked(from, amount);
            if (c == null || full(to) + amount > sizes.get(to)) {
                return null;
            }
            for (int s = 0; s < 4; s++) {
                c.stuffs.get(to)[s] = stuffs.get(to)[s].plus(strength(from, s).times(amount, 1));
            }
            return c;
        }

        boolean tooLarge() {
            return lower().compareTo(MOST_LOWER) > 0;
        }
    }

    static final class Kept {
        Glasses glasses = new Glasses();
        List<Integer> spoons = new ArrayList<>();
        List<int[]> tastings = new ArrayList<>();
        List<int[]> wines = new ArrayList<>();

        Kept copy() {
            Kept c = new Kept();
            c.glasses = glasses.copy();
            c.spoons.addAll(spoons);
            c.tastings.addAll(tastings);
            c.wines.addAll(wines);
            return c;
        }
    }

    Kept now = new Kept();
    final Kept[] images = new Kept[2];
    List<Integer> tape = new ArrayList<>();
    Glasses night = new Glasses();
    int spilt = 0;
    int fault = -1;
    int stopped = -1;
    int status = 0;
    final int[] refused = new int[7];

    private int answered(int answer) {
        status = answer < 0 ? answer : 0;
        if (answer < 0) {
            refused[-answer]++;
        }
        return answer;
    }

    private static boolean in(int x, int a, int b) {
        return x >= a && x <= b;
    }

    int glass(int size) {
        if (!in(size, 1, 60)) {
            return answered(-1);
        }
        if (now.glasses.sizes.size() == 6) {
            return answered(-5);
        }
        now.glasses.sizes.add(size);
        now.glasses.stuffs.add(new Frac[] {ZERO, ZERO, ZERO, ZERO});
        return answered(now.glasses.sizes.size() - 1);
    }

    int of(int g, int what) {
        if (!now.glasses.has(g) || !in(what, 0, 1)) {
            return -1;
        }
        return what == 0 ? now.glasses.sizes.get(g) : now.glasses.full(g);
    }

    long part(int g, int s) {
        if (!now.glasses.has(g) || !in(s, 0, 3)) {
            return -1;
        }
        Frac f = now.glasses.stuffs.get(g)[s];
        return f.up.multiply(now.glasses.lower()).divide(f.low).longValueExact();
    }

    long lower() {
        return now.glasses.lower().longValueExact();
    }

    int taste(int g, int s) {
        return now.glasses.has(g) && in(s, 0, 3) ? now.glasses.taste(g, s) : -1;
    }

    int fill(int g, int s, int amount) {
        if (!in(s, 0, 3) || !in(amount, 1, 60)) {
            return answered(-1);
        }
        if (!now.glasses.has(g)) {
            return answered(-2);
        }
        return answered(become(now.glasses.filled(g, s, amount), g));
    }

    private int become(Glasses next, int g) {
        if (next == null) {
            return -3;
        }
        if (next.tooLarge()) {
            return -5;
        }
        now.glasses = next;
        return next.full(g);
    }

    int spoon(int from, int to, int amount) {
        if (!in(amount, 1, 60)) {
            return answered(-1);
        }
        if (!now.glasses.has(from) || !now.glasses.has(to)) {
            return answered(-2);
        }
        return answered(become(now.glasses.spooned(from, to, amount), to));
    }

    int lick(int from, int amount) {
        if (!in(amount, 1, 60)) {
            return answered(-1);
        }
        if (!now.glasses.has(from)) {
            return answered(-2);
        }
        return answered(become(now.glasses.licked(from, amount), from));
    }

    int empty(int g) {
        if (!now.glasses.has(g)) {
            return answered(-2);
        }
        int was = now.glasses.full(g);
        Arrays.fill(now.glasses.stuffs.get(g), ZERO);
        return answered(was);
    }

    int feed(int... five) {
        if (tape.size() > 380) {
            return -1;
        }
        for (int word : five) {
            for (int k = 3; k >= 0; k--) {
                tape.add(word >>> 8 * k & 255);
            }
        }
        return tape.size();
    }

    int end(int n) {
        if (!in(n, 0, tape.size())) {
            return -1;
        }
        tape = new ArrayList<>(tape.subList(0, n));
        return n;
    }

    int row() {
        List<Integer> bytes = tape;
        tape = new ArrayList<>();
        if (bytes.isEmpty() || !now.glasses.has(bytes.get(0))) {
            return answered(-6);
        }
        int filled = 0;
        for (int k = 1; k < bytes.size(); k++) {
            Glasses next = k > 4 ? null : now.glasses.filled(bytes.get(0), k - 1, bytes.get(k));
            if (next != null) {
                now.glasses = next;
                filled++;
            }
        }
        spilt = bytes.size() - 1 - filled;
        return answered(filled);
    }

    int evening() {
        StringBuilder text = new StringBuilder();
        for (int b : tape) {
            text.append((char) b);
        }
        tape = new ArrayList<>();
        fault = -1;
        stopped = -1;
        EveningModel evening;
        try {
            evening = new EveningModel(text.toString());
        } catch (EveningModel.Fault f) {
            fault = f.place;
            return answered(-6);
        }
        int answer = evening.run(now.glasses);
        if (answer < 0) {
            stopped = evening.stopped;
        } else {
            now.glasses = evening.glasses;
        }
        return answered(answer);
    }

    int alike(int one, int other, int s) {
        if (!now.glasses.has(one) || !now.glasses.has(other) || !in(s, 0, 3)) {
            return -1;
        }
        return now.glasses.strength(one, s).compareTo(now.glasses.strength(other, s)) == 0 ? 1 : 0;
    }

    /** Really spoons to and fro, in glasses that are large enough. */
    private static Frac unlike(int full, int spoon, int n) {
        Glasses g = new Glasses();
        for (int k = 0; k < 2; k++) {
            g.sizes.add(120);
            Frac[] stuff = {ZERO, ZERO, ZERO, ZERO};
            stuff[k] = Frac.of(full, 1);
            g.stuffs.add(stuff);
        }
        for (int k = 0; k < n; k++) {
            g = g.spooned(0, 1, spoon).spooned(1, 0, spoon);
        }
        return g.strength(0, 0).minus(g.strength(1, 0)).abs();
    }

    private static long term(Frac f, int what) {
        return what == 0 ? f.up.longValueExact() : what == 1 ? f.low.longValueExact() : -1;
    }

    long both(int full, int spoon, int n, int what) {
        if (!in(full, 1, 60) || !in(spoon, 1, full - 1) || !in(n, 0, 6)) {
            return -1;
        }
        return term(unlike(full, spoon, n), what);
    }

    int rounds(int full, int spoon, int hundredths) {
        if (!in(full, 1, 60) || !in(spoon, 1, full - 1) || !in(hundredths, 0, 100)) {
            return -1;
        }
        for (int n = 0; n <= 6; n++) {
            if (unlike(full, spoon, n).compareTo(Frac.of(hundredths, 100)) <= 0) {
                return n;
            }
        }
        return -1;
    }

    int size(int amount) {
        if (!in(amount, 1, 60)) {
            return answered(-1);
        }
        if (now.spoons.size() == 3) {
            return answered(-5);
        }
        now.spoons.add(amount);
        return answered(now.spoons.size() - 1);
    }

    int wash() {
        int were = now.spoons.size() + now.tastings.size();
        now.spoons.clear();
        now.tastings.clear();
        return were;
    }

    /** The row with this number among all of n moves, as they come in order; null if one of its moves can't be. */
    private Glasses after(int[][] row) {
        Glasses g = now.glasses;
        for (int[] move : row) {
            g = g.spooned(move[1], move[2], now.spoons.get(move[0]));
            if (g == null || g.tooLarge()) {
                return null;
            }
        }
        return g;
    }

    private int[][] rowOf(int number, int n) {
        int[][] row = new int[n][];
        int rest = number;
        for (int k = n - 1; k >= 0; k--) {
            int move = rest % (9 * now.spoons.size());
            rest /= 9 * now.spoons.size();
            row[k] = new int[] {move / 9, move / 3 % 3, move % 3};
        }
        return row;
    }

    private int rowsOf(int n) {
        int all = 1;
        for (int k = 0; k < n; k++) {
            all *= 9 * now.spoons.size();
        }
        return all;
    }

    int reach(int g, int s, int strength, int within, int i, int what) {
        if (!now.glasses.has(g) || !in(s, 0, 3) || !in(strength, 0, 100) || !in(within, 0, 100)) {
            return -1;
        }
        for (int n = 0; n <= 3; n++) {
            for (int number = 0; number < rowsOf(n); number++) {
                int[][] row = rowOf(number, n);
                Glasses then = after(row);
                if (then == null || then.full(g) == 0) {
                    continue;
                }
                Frac away = then.strength(g, s).minus(Frac.of(strength, 100)).abs();
                if (away.compareTo(Frac.of(within, 100)) <= 0) {
                    return i == -1 ? n : ofRow(row, i, what);
                }
            }
        }
        return -1;
    }

    private static int ofRow(int[][] row, int i, int what) {
        return in(i, 0, row.length - 1) && in(what, 0, 2) ? row[i][what] : -1;
    }

    int tasting(int g, int s, int taste) {
        if (!in(s, 0, 3) || !in(taste, 0, 100)) {
            return answered(-1);
        }
        if (!now.glasses.has(g)) {
            return answered(-2);
        }
        if (now.tastings.size() == 6) {
            return answered(-5);
        }
        now.tastings.add(new int[] {g, s, taste});
        return answered(now.tastings.size());
    }

    int fits(int n, int i, int what) {
        if (!in(n, 0, 3)) {
            return -1;
        }
        int rows = 0;
        int[][] first = null;
        for (int number = 0; number < rowsOf(n); number++) {
            int[][] row = rowOf(number, n);
            Glasses then = after(row);
            boolean so = then != null;
            for (int[] t : now.tastings) {
                so = so && then.taste(t[0], t[1]) == t[2];
            }
            if (so) {
                first = rows == 0 ? row : first;
                rows++;
            }
        }
        if (i == -1) {
            return rows;
        }
        return first == null ? -1 : ofRow(first, i, what);
    }

    private static Frac left(int size, int drawn, int n) {
        Frac wine = Frac.of(size, 1);
        for (int k = 0; k < n; k++) {
            wine = wine.minus(wine.times(drawn, size));
        }
        return wine.times(1, size);
    }

    long cask(int size, int drawn, int n, int what) {
        if (!in(size, 1, 60) || !in(drawn, 0, size) || !in(n, 0, 6)) {
            return -1;
        }
        return term(left(size, drawn, n), what);
    }

    int guests(int size, int drawn, int hundredths) {
        if (!in(size, 1, 60) || !in(drawn, 0, size) || !in(hundredths, 0, 100)) {
            return -1;
        }
        for (int n = 0; n <= 6; n++) {
            if (left(size, drawn, n).compareTo(Frac.of(hundredths, 100)) < 0) {
                return n;
            }
        }
        return -1;
    }

    private int[] bestGoes;
    private long bestProduct;

    private void pour(int[] goes, int at, int left, int clings, long product) {
        if (at == goes.length) {
            if (product > bestProduct) {
                bestProduct = product;
                bestGoes = goes.clone();
            }
            return;
        }
        for (int w = 0; w <= left; w++) {
            goes[at] = w;
            pour(goes, at + 1, left - w, clings, product * (clings + w));
        }
    }

    long rinse(int clings, int water, int goes, int what) {
        if (!in(clings, 1, 9) || !in(water, 0, 60) || !in(goes, 1, 6) || what < 0 || what >= 2 + goes) {
            return -1;
        }
        bestProduct = 0;
        pour(new int[goes], 0, water, clings, 1);
        Frac f = Frac.of(1, 1);
        for (int w : bestGoes) {
            f = f.times(clings, clings + w);
        }
        return what < 2 ? term(f, what) : bestGoes[what - 2];
    }

    int wine(int strength, int price, int amount) {
        if (!in(strength, 0, 100) || !in(price, 0, 99) || !in(amount, 0, 20)) {
            return answered(-1);
        }
        if (now.wines.size() == 6) {
            return answered(-5);
        }
        now.wines.add(new int[] {strength, price, amount});
        return answered(now.wines.size() - 1);
    }

    int drink(int wine) {
        if (!in(wine, 0, now.wines.size() - 1)) {
            return answered(-2);
        }
        now.wines.remove(wine);
        return answered(now.wines.size());
    }

    /** The least prices from the last wine on, then the first row that has them. */
    int mix(int amount, int strength, int what) {
        int wines = now.wines.size();
        if (!in(amount, 1, 20) || !in(strength, 0, 100) || !in(what, 0, wines)) {
            return -1;
        }
        int all = amount * strength;
        int none = 1_000_000;
        int[][][] least = new int[wines + 1][amount + 1][all + 1];
        for (int[][] l : least) {
            for (int[] m : l) {
                Arrays.fill(m, none);
            }
        }
        least[wines][0][0] = 0;
        for (int w = wines - 1; w >= 0; w--) {
            int[] wine = now.wines.get(w);
            for (int a = 0; a <= amount; a++) {
                for (int s = 0; s <= all; s++) {
                    for (int x = 0; x <= Math.min(a, wine[2]) && x * wine[0] <= s; x++) {
                        least[w][a][s] = Math.min(least[w][a][s], least[w + 1][a - x][s - x * wine[0]] + x * wine[1]);
                    }
                }
            }
        }
        if (least[0][amount][all] >= none) {
            return -1;
        }
        if (what == 0) {
            return least[0][amount][all];
        }
        int a = amount;
        int s = all;
        for (int w = 0; w < wines; w++) {
            int[] wine = now.wines.get(w);
            int x = 0;
            while (x * wine[0] > s || least[w + 1][a - x][s - x * wine[0]] + x * wine[1] != least[w][a][s]) {
                x++;
            }
            if (w == what - 1) {
                return x;
            }
            a -= x;
            s -= x * wine[0];
        }
        throw new IllegalStateException();
    }

    private static BigInteger pascal(int n, int k) {
        BigInteger[] row = new BigInteger[k + 1];
        Arrays.fill(row, BigInteger.ZERO);
        row[0] = BigInteger.ONE;
        for (int m = 1; m <= n; m++) {
            for (int j = k; j >= 1; j--) {
                row[j] = row[j].add(row[j - 1]);
            }
        }
        return row[k];
    }

    long cards(int red, int black, int k, int j, int what) {
        if (!in(red, 0, 20) || !in(black, 0, 20) || !in(k, 0, red) || !in(j, 0, k) || !in(what, 0, 1)) {
            return -1;
        }
        BigInteger moved = pascal(red, k);
        BigInteger back = what == 1 ? pascal(black + k, k) : pascal(k, k - j).multiply(pascal(black, j));
        return moved.multiply(back).longValueExact();
    }

    int night(int seed, int n) {
        if (!in(seed, 0, 1_000_000) || !in(n, 1, 20)) {
            return answered(-1);
        }
        night = now.glasses.copy();
        int glasses = night.sizes.size();
        int moves = 0;
        BigInteger s = BigInteger.valueOf(seed);
        for (int k = 0; k < n && glasses > 0 && !now.spoons.isEmpty(); k++) {
            int[] draws = new int[3];
            for (int d = 0; d < 3; d++) {
                s = s.multiply(BigInteger.valueOf(1103)).add(BigInteger.valueOf(12345)).mod(BigInteger.valueOf(1_000_003));
                draws[d] = s.intValueExact() % (d < 2 ? glasses : now.spoons.size());
            }
            Glasses next = night.spooned(draws[0], draws[1], now.spoons.get(draws[2]));
            if (next != null && !next.tooLarge()) {
                night = next;
                moves++;
            }
        }
        return answered(moves);
    }

    int drawn(int g, int s) {
        return night.has(g) && in(s, 0, 3) ? night.taste(g, s) : -1;
    }

    int image(int k) {
        if (!in(k, 0, 1)) {
            return answered(-1);
        }
        images[k] = now.copy();
        return answered(0);
    }

    int back(int k) {
        if (!in(k, 0, 1)) {
            return answered(-1);
        }
        if (images[k] == null) {
            return answered(-2);
        }
        now = images[k].copy();
        return answered(0);
    }

    int count(int what) {
        int[] answers = {now.glasses.sizes.size(), now.spoons.size(), now.tastings.size(), now.wines.size(), tape.size(),
            refused[1], refused[2], refused[3], refused[5], refused[6], -1, -1, -1};
        for (int k = 0; k < now.spoons.size(); k++) {
            answers[10 + k] = now.spoons.get(k);
        }
        return in(what, 0, 12) ? answers[what] : -1;
    }
}
