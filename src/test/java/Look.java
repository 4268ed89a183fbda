import java.util.ArrayList;
import java.util.List;

/**
 * All that can be asked of an object without changing it, but for status() and the counts of refused calls, which tell
 * of the calls and not of what stands. A look takes some 150 calls of the 512.
 */
final class Look {
    private final List<String> names = new ArrayList<>();
    private final List<Long> answers = new ArrayList<>();

    private Look(WineSpoon x) {
        add("lower", x.lower());
        add("spilt", x.spilt());
        add("fault", x.fault());
        add("stopped", x.stopped());
        for (int what : new int[] {0, 1, 2, 3, 4, 10, 11, 12}) {
            add("count " + what, x.count(what));
        }
        glasses(x);
        spoonsAndTastings(x);
        wines(x);
    }

    static Look at(WineSpoon x) {
        return new Look(x);
    }

    private void add(String name, long answer) {
        names.add(name);
        answers.add(answer);
    }

    private void glasses(WineSpoon x) {
        for (int g = 0; g < 6; g++) {
            add("size of " + g, x.of(g, 0));
            add("full of " + g, x.of(g, 1));
            for (int s = 0; s < 4; s++) {
                add("part " + g + " " + s, x.part(g, s));
                add("taste " + g + " " + s, x.taste(g, s));
                add("drawn " + g + " " + s, x.drawn(g, s));
            }
        }
    }

    /** Tastings show by what fits, and by nothing else. */
    private void spoonsAndTastings(WineSpoon x) {
        for (int n = 0; n <= 2; n++) {
            add("fits " + n, x.fits(n, -1, 0));
        }
        for (int what = 0; what <= 2; what++) {
            add("fits 1, first " + what, x.fits(1, 0, what));
            add("fits 2, second " + what, x.fits(2, 1, what));
        }
    }

    private void wines(WineSpoon x) {
        for (int strength = 0; strength <= 100; strength += 25) {
            add("mix of one, " + strength, x.mix(1, strength, 0));
            add("mix of four, " + strength, x.mix(4, strength, 0));
            add("mix of four, the first one, " + strength, x.mix(4, strength, 1));
        }
    }

    /** Says each answer that is another one now. */
    void same(String behind, Look then) {
        for (int k = 0; k < names.size(); k++) {
            Check.due(names.get(k) + " behind " + behind, then.answers.get(k), answers.get(k));
        }
    }
}
