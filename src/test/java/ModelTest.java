import java.util.Random;

/** Long runs of calls by draws, each answer compared with the model's. */
public final class ModelTest {
    private final Random random;
    private final EveningDraws texts;
    private WineSpoon x;
    private Model m;

    private ModelTest(long seed) {
        random = new Random(seed);
        texts = new EveningDraws(random);
    }

    public static void main(String[] args) {
        int runs = args.length > 0 ? Integer.parseInt(args[0]) : 200;
        long first = args.length > 1 ? Long.parseLong(args[1]) : 1;
        for (int run = 0; run < runs && !Check.anyWrong(); run++) {
            new ModelTest(first + run).run(first + run);
        }
        Check.close();
    }

    private void run(long seed) {
        x = new WineSpoon();
        m = new Model();
        int calls = 0;
        // some runs begin with glasses and spoons, so that much can happen
        if (seed % 4 != 0) {
            for (int g = 0; g < 2 + seed % 4; g++) {
                int size = 5 + random.nextInt(40);
                same(seed, "glass " + size, x.glass(size), m.glass(size));
                same(seed, "fill", x.fill(g, g % 4, size / 2), m.fill(g, g % 4, size / 2));
                calls += 2;
            }
        }
        for (; calls < 500 && !Check.anyWrong(); calls++) {
            call(seed);
            if (calls % 25 == 0) {
                everything(seed);
            }
        }
        everything(seed);
    }

    private void same(long seed, String call, long got, long want) {
        Check.due("run " + seed + ": " + call, got, want);
    }

    private int near(int least, int most) {
        return random.nextInt(12) == 0 ? least - 1 + random.nextInt(most - least + 3) : least + random.nextInt(most - least + 1);
    }

    private int odd(int usual) {
        int[] odd = {-1, Integer.MIN_VALUE, Integer.MAX_VALUE, 1000, -7, 61, 101, 7};
        return random.nextInt(60) == 0 ? odd[random.nextInt(odd.length)] : usual;
    }

    private int glassNumber() {
        int glasses = m.now.glasses.sizes.size();
        return odd(random.nextInt(15) == 0 || glasses == 0 ? near(0, 5) : random.nextInt(glasses));
    }

    private int stuff() {
        return odd(near(0, 3));
    }

    private int amount() {
        return odd(random.nextInt(4) == 0 ? near(1, 60) : 1 + random.nextInt(9));
    }

    private void call(long seed) {
        int a = glassNumber();
        int b = glassNumber();
        int s = stuff();
        int n = amount();
        switch (random.nextInt(26)) {
            case 0: { int size = odd(near(1, 60)); same(seed, "glass " + size, x.glass(size), m.glass(size)); break; }
            case 1: case 2: same(seed, "fill " + a + " " + s + " " + n, x.fill(a, s, n), m.fill(a, s, n)); break;
            case 3: case 4: case 5: case 6:
                same(seed, "spoon " + a + " " + b + " " + n, x.spoon(a, b, n), m.spoon(a, b, n)); break;
            case 7: same(seed, "lick " + a + " " + n, x.lick(a, n), m.lick(a, n)); break;
            case 8: if (random.nextInt(4) == 0) { same(seed, "empty " + a, x.empty(a), m.empty(a)); } break;
            case 9: case 10: case 11: case 12: evening(seed); break;
            case 13: row(seed); break;
            case 14: { int size = odd(near(1, 20)); same(seed, "size " + size, x.size(size), m.size(size)); break; }
            case 15: if (random.nextInt(4) == 0) { same(seed, "wash", x.wash(), m.wash()); } break;
            case 16: tasting(seed, a, s); break;
            case 17: if (random.nextInt(5) == 0) { search(seed, a, s); } break;
            case 18: case 19: { int p = odd(near(0, 100)); int q = odd(near(0, 99)); int r = odd(near(0, 20));
                same(seed, "wine " + p + " " + q + " " + r, x.wine(p, q, r), m.wine(p, q, r)); break; }
            case 20: if (random.nextInt(2) == 0) { int w = odd(near(0, 5)); same(seed, "drink " + w, x.drink(w), m.drink(w)); } break;
            case 21: case 22: { int seeds = odd(near(0, 1_000_000)); int moves = odd(near(1, 20));
                same(seed, "night " + seeds + " " + moves, x.night(seeds, moves), m.night(seeds, moves)); break; }
            case 23: { int k = odd(near(0, 1)); same(seed, "image " + k, x.image(k), m.image(k)); break; }
            case 24: if (random.nextInt(3) == 0) { int k = odd(near(0, 1)); same(seed, "back " + k, x.back(k), m.back(k)); } break;
            default: ask(seed, a, b, s); break;
        }
        same(seed, "status", x.status(), m.status);
    }

    private void evening(long seed) {
        String text = texts.draw(m.now.glasses.sizes.size());
        tell(seed, text);
        if (random.nextInt(30) == 0) {
            return;
        }
        same(seed, "evening <" + text + ">", x.evening(), m.evening());
        same(seed, "fault of <" + text + ">", x.fault(), m.fault);
        same(seed, "stopped in <" + text + ">", x.stopped(), m.stopped);
    }

    private void tell(long seed, String text) {
        int from = random.nextInt(10) == 0 ? m.tape.size() : 0;
        same(seed, "end " + from, x.end(from), m.end(from));
        for (int at = 0; at < text.length(); at += 20) {
            int[] five = new int[5];
            for (int k = 0; k < 20; k++) {
                five[k / 4] = five[k / 4] << 8 | (at + k < text.length() ? text.charAt(at + k) & 255 : 32);
            }
            same(seed, "feed", x.feed(five[0], five[1], five[2], five[3], five[4]), m.feed(five));
        }
        int end = random.nextInt(20) == 0 ? near(0, 400) : from + text.length();
        same(seed, "end " + end, x.end(end), m.end(end));
    }

    private void row(long seed) {
        StringBuilder bytes = new StringBuilder();
        bytes.append((char) (random.nextInt(12) == 0 ? random.nextInt(256) : glassNumber() & 7));
        int amounts = random.nextInt(7);
        for (int k = 0; k < amounts; k++) {
            bytes.append((char) (random.nextInt(6) == 0 ? random.nextInt(256) : random.nextInt(8)));
        }
        tell(seed, bytes.toString());
        same(seed, "row", x.row(), m.row());
        same(seed, "spilt", x.spilt(), m.spilt);
    }

    private void tasting(long seed, int a, int s) {
        boolean asItIs = m.now.glasses.has(a) && s >= 0 && s <= 3 && random.nextInt(3) > 0;
        int taste = asItIs ? m.now.glasses.taste(a, s) : odd(near(0, 100));
        same(seed, "tasting " + a + " " + s + " " + taste, x.tasting(a, s, taste), m.tasting(a, s, taste));
    }

    private void search(long seed, int a, int s) {
        int strength = odd(near(0, 100));
        int within = odd(random.nextInt(2) == 0 ? near(0, 100) : random.nextInt(4));
        int i = odd(near(0, 2));
        int what = odd(near(0, 2));
        // the model is slow with three spoons and three moves
        int n = odd(m.now.spoons.size() == 3 && random.nextInt(8) > 0 ? near(0, 2) : near(0, 3));
        same(seed, "fits " + n, x.fits(n, -1, 0), m.fits(n, -1, 0));
        same(seed, "fits " + n + " " + i + " " + what, x.fits(n, i, what), m.fits(n, i, what));
        if (m.now.spoons.size() == 3 && random.nextInt(3) > 0) {
            return;
        }
        String told = a + " " + s + " " + strength + " " + within;
        same(seed, "reach " + told, x.reach(a, s, strength, within, -1, 0), m.reach(a, s, strength, within, -1, 0));
        same(seed, "reach " + told + " " + i + " " + what,
            x.reach(a, s, strength, within, i, what), m.reach(a, s, strength, within, i, what));
    }

    private void ask(long seed, int a, int b, int s) {
        int what = odd(near(0, 1));
        int full = odd(near(1, 60));
        int less = odd(random.nextInt(2) == 0 ? near(1, 60) : 1 + random.nextInt(Math.max(1, Math.min(full, 60))));
        int n = odd(near(0, 6));
        int h = odd(near(0, 100));
        same(seed, "alike " + a + " " + b + " " + s, x.alike(a, b, s), m.alike(a, b, s));
        same(seed, "both " + full + " " + less + " " + n + " " + what, x.both(full, less, n, what), m.both(full, less, n, what));
        same(seed, "rounds " + full + " " + less + " " + h, x.rounds(full, less, h), m.rounds(full, less, h));
        same(seed, "cask " + full + " " + (less - 1) + " " + n + " " + what, x.cask(full, less - 1, n, what), m.cask(full, less - 1, n, what));
        same(seed, "guests " + full + " " + less + " " + h, x.guests(full, less, h), m.guests(full, less, h));
        int goes = odd(near(1, 6));
        int water = odd(goes > 4 ? near(0, 14) : goes > 3 ? near(0, 30) : near(0, 60));
        int clings = odd(near(1, 9));
        int term = odd(near(0, 7));
        same(seed, "rinse " + clings + " " + water + " " + goes + " " + term,
            x.rinse(clings, water, goes, term), m.rinse(clings, water, goes, term));
        int mixed = odd(near(1, 20));
        int strength = odd(near(0, 100));
        int wine = odd(near(0, 6));
        same(seed, "mix " + mixed + " " + strength, x.mix(mixed, strength, 0), m.mix(mixed, strength, 0));
        same(seed, "mix " + mixed + " " + strength + " " + wine, x.mix(mixed, strength, wine), m.mix(mixed, strength, wine));
        int r = odd(near(0, 20));
        int bl = odd(near(0, 20));
        int k = odd(random.nextInt(Math.max(1, Math.min(r, 20) + 2)));
        int j = odd(random.nextInt(Math.max(1, Math.min(k, 20) + 2)));
        same(seed, "cards " + r + " " + bl + " " + k + " " + j + " " + what, x.cards(r, bl, k, j, what), m.cards(r, bl, k, j, what));
    }

    /** All that can be asked of what stands. */
    private void everything(long seed) {
        same(seed, "lower", x.lower(), m.lower());
        for (int g = -1; g <= 6; g++) {
            for (int what = -1; what <= 2; what++) {
                same(seed, "of " + g + " " + what, x.of(g, what), m.of(g, what));
            }
            for (int s = -1; s <= 4; s++) {
                same(seed, "part " + g + " " + s, x.part(g, s), m.part(g, s));
                same(seed, "taste " + g + " " + s, x.taste(g, s), m.taste(g, s));
                same(seed, "drawn " + g + " " + s, x.drawn(g, s), m.drawn(g, s));
            }
        }
        for (int what = -1; what <= 13; what++) {
            same(seed, "count " + what, x.count(what), m.count(what));
        }
        same(seed, "spilt", x.spilt(), m.spilt);
        same(seed, "fault", x.fault(), m.fault);
        same(seed, "stopped", x.stopped(), m.stopped);
        same(seed, "status", x.status(), m.status);
    }
}
