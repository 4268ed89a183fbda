import java.util.ArrayList;
import java.util.List;

/** The language of an evening once more, read into small trees; only for comparing answers. */
final class EveningModel {
    /** The first token that can't go on. */
    static final class Fault extends Exception {
        private static final long serialVersionUID = 1L;
        final int place;

        Fault(int place) {
            this.place = place;
        }
    }

    /** A sum or a test that is broken. */
    static final class Broken extends Exception {
        private static final long serialVersionUID = 1L;
    }

    interface Sum {
        long value() throws Broken;
    }

    interface Test {
        boolean so() throws Broken;
    }

    private static final class Clause {
        String kind;
        int stuff;
        int from = -1;
        int to = -1;
        int times = 1;
        Sum amount;
        Test when;
    }

    Model.Glasses glasses;
    int stopped = -1;
    private int done;
    private final String text;
    private final List<String> tokens = new ArrayList<>();
    private final List<Integer> places = new ArrayList<>();
    private int at;
    private int parts;
    private final List<Clause> clauses = new ArrayList<>();

    EveningModel(String text) throws Fault {
        this.text = text;
        java.util.regex.Matcher m = java.util.regex.Pattern.compile("[a-z]+|[0-9]+|[^ ]", java.util.regex.Pattern.DOTALL).matcher(text);
        while (m.find()) {
            tokens.add(m.group());
            places.add(m.start());
        }
        do {
            if (clauses.size() == 12) {
                throw fault();
            }
            clauses.add(clause());
        } while (maybe(";"));
        if (at < tokens.size()) {
            throw fault();
        }
    }

    private Fault fault() {
        return new Fault(at < tokens.size() ? places.get(at) : text.length());
    }

    private String peek() {
        return at < tokens.size() ? tokens.get(at) : "";
    }

    private boolean maybe(String token) {
        if (peek().equals(token)) {
            at++;
            return true;
        }
        return false;
    }

    private void must(String token) throws Fault {
        if (!maybe(token)) {
            throw fault();
        }
    }

    private boolean isNumber() {
        return peek().matches("[0-9]+");
    }

    private int number(int least, int most) throws Fault {
        if (!isNumber()) {
            throw fault();
        }
        java.math.BigInteger n = new java.math.BigInteger(peek());
        if (n.compareTo(java.math.BigInteger.valueOf(least)) < 0 || n.compareTo(java.math.BigInteger.valueOf(most)) > 0) {
            throw fault();
        }
        at++;
        return n.intValueExact();
    }

    private Clause clause() throws Fault {
        Clause c = new Clause();
        c.kind = peek();
        if (!c.kind.equals("spoon") && !c.kind.equals("lick") && !c.kind.equals("fill")) {
            throw fault();
        }
        at++;
        if (c.kind.equals("fill")) {
            c.stuff = number(0, 3);
        }
        c.amount = sum(0);
        if (!c.kind.equals("fill")) {
            must("from");
            c.from = number(0, 5);
        }
        if (!c.kind.equals("lick")) {
            must("to");
            c.to = number(0, 5);
        }
        if (maybe("times")) {
            c.times = number(1, 20);
        }
        c.when = maybe("if") ? test(0) : () -> true;
        return c;
    }

    private Test test(int depth) throws Fault {
        Test left = both(depth);
        while (maybe("or")) {
            Test one = left;
            Test two = both(depth);
            left = () -> one.so() || two.so();
        }
        return left;
    }

    private Test both(int depth) throws Fault {
        Test left = plain(depth);
        while (maybe("and")) {
            Test one = left;
            Test two = plain(depth);
            left = () -> one.so() && two.so();
        }
        return left;
    }

    private Test plain(int depth) throws Fault {
        if (maybe("not")) {
            Test inner = plain(depth);
            return () -> !inner.so();
        }
        if (peek().equals("(")) {
            if (depth == 8) {
                throw fault();
            }
            at++;
            Test inner = test(depth + 1);
            must(")");
            return inner;
        }
        Sum left = sum(depth);
        String sign = peek();
        if (!sign.equals("<") && !sign.equals(">") && !sign.equals("=")) {
            throw fault();
        }
        at++;
        Sum right = sum(depth);
        return () -> {
            int order = Long.compare(left.value(), right.value());
            return sign.equals("<") ? order < 0 : sign.equals(">") ? order > 0 : order == 0;
        };
    }

    private static long held(long value) throws Broken {
        if (value > 1_000_000_000L || value < -1_000_000_000L) {
            throw new Broken();
        }
        return value;
    }

    private Sum sum(int depth) throws Fault {
        Sum left = term(depth);
        while (peek().equals("+") || peek().equals("-")) {
            int sign = peek().equals("+") ? 1 : -1;
            at++;
            Sum one = left;
            Sum two = term(depth);
            left = () -> held(one.value() + sign * two.value());
        }
        return left;
    }

    private Sum term(int depth) throws Fault {
        Sum left = part(depth);
        while (peek().equals("*") || peek().equals("/")) {
            boolean times = peek().equals("*");
            at++;
            Sum one = left;
            Sum two = part(depth);
            left = () -> {
                long a = one.value();
                long b = two.value();
                if (!times && b == 0) {
                    throw new Broken();
                }
                return held(times ? a * b : a / b);
            };
        }
        return left;
    }

    private Sum part(int depth) throws Fault {
        if (peek().equals("[")) {
            if (depth == 8) {
                throw fault();
            }
            at++;
            Sum inner = sum(depth + 1);
            must("]");
            return inner;
        }
        String word = peek();
        boolean counted = isNumber() || List.of("full", "size", "taste", "done").contains(word);
        if (!counted || parts == 50) {
            throw fault();
        }
        parts++;
        if (isNumber()) {
            int n = number(0, 1000);
            return () -> n;
        }
        at++;
        if (word.equals("done")) {
            return () -> done;
        }
        int stuff = word.equals("taste") ? number(0, 3) : 0;
        int g = number(0, 5);
        return () -> !glasses.has(g) ? 0
            : word.equals("full") ? glasses.full(g) : word.equals("size") ? glasses.sizes.get(g) : glasses.taste(g, stuff);
    }

    int run(Model.Glasses ahead) {
        glasses = ahead;
        for (int k = 0; k < clauses.size(); k++) {
            Clause c = clauses.get(k);
            for (int time = 0; time < c.times; time++) {
                boolean so;
                try {
                    so = c.when.so();
                } catch (Broken b) {
                    so = false;
                }
                if (!so) {
                    continue;
                }
                Model.Glasses next;
                try {
                    long amount = c.amount.value();
                    next = c.kind.equals("spoon") ? glasses.spooned(c.from, c.to, amount)
                        : c.kind.equals("lick") ? glasses.licked(c.from, amount) : glasses.filled(c.to, c.stuff, amount);
                } catch (Broken b) {
                    next = null;
                }
                if (next == null || next.tooLarge()) {
                    stopped = k;
                    return next == null ? -3 : -5;
                }
                glasses = next;
                done++;
            }
        }
        return done;
    }
}
