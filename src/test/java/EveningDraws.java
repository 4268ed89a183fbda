import java.util.ArrayList;
import java.util.List;
import java.util.Random;

/** Texts of evenings by draws: most can be read, some have a fault. */
final class EveningDraws {
    private static final String[] STRAY = {"spoon", "lick", "fill", "from", "to", "times", "if", "or", "and", "not", "full",
        "size", "taste", "done", "0", "1", "5", "6", "20", "21", "1000", "1001", "007", ";", "(", ")", "[", "]", "+", "-", "*",
        "/", "<", ">", "=", "A", "\t", "spoo", "spoonn", "99999999999999999999", "0000000000001", "\u00e9", "\0", "!"};
    private final Random random;
    private final List<String> tokens = new ArrayList<>();
    private int glasses;

    EveningDraws(Random random) {
        this.random = random;
    }

    String draw(int glassCount) {
        glasses = Math.max(1, glassCount);
        tokens.clear();
        int clauses = random.nextInt(15) == 0 ? 10 + random.nextInt(5) : 1 + random.nextInt(3);
        for (int k = 0; k < clauses; k++) {
            if (k > 0) {
                tokens.add(";");
            }
            clause(clauses > 5 ? 0 : 1 + random.nextInt(3));
        }
        int faults = random.nextInt(3) == 0 ? 1 + random.nextInt(2) : 0;
        for (int k = 0; k < faults && !tokens.isEmpty(); k++) {
            spoil();
        }
        String text = join();
        return text.length() > 400 ? text.substring(0, 400) : text;
    }

    private String join() {
        StringBuilder text = new StringBuilder();
        String before = "";
        for (String token : tokens) {
            boolean words = before.matches("[a-z]+") && token.matches("[a-z]+");
            boolean numbers = before.matches("[0-9]+") && token.matches("[0-9]+");
            if (words || numbers || random.nextInt(3) == 0) {
                text.append(random.nextInt(8) == 0 ? "  " : " ");
            }
            text.append(token);
            before = token;
        }
        return random.nextInt(5) == 0 ? text.append("   ").toString() : text.toString();
    }

    private void spoil() {
        int at = random.nextInt(tokens.size());
        String stray = STRAY[random.nextInt(STRAY.length)];
        switch (random.nextInt(4)) {
            case 0: tokens.remove(at); break;
            case 1: tokens.add(at, stray); break;
            case 2: tokens.set(at, stray); break;
            default: tokens.subList(at, tokens.size()).clear(); break;
        }
    }

    private void add(String... more) {
        tokens.addAll(List.of(more));
    }

    private String glass() {
        return "" + (random.nextInt(20) == 0 ? random.nextInt(6) : random.nextInt(glasses));
    }

    private void clause(int depth) {
        switch (random.nextInt(3)) {
            case 0:
                add("spoon");
                amount(depth);
                add("from", glass(), "to", glass());
                break;
            case 1:
                add("lick");
                amount(depth);
                add("from", glass());
                break;
            default:
                add("fill", "" + random.nextInt(4));
                amount(depth);
                add("to", glass());
                break;
        }
        if (random.nextInt(3) == 0) {
            add("times", "" + (1 + random.nextInt(random.nextInt(4) == 0 ? 20 : 3)));
        }
        if (random.nextInt(2) == 0) {
            add("if");
            test(depth);
        }
    }

    private void amount(int depth) {
        if (random.nextInt(3) > 0) {
            add("" + (1 + random.nextInt(4)));
        } else {
            sum(depth);
        }
    }

    private void test(int depth) {
        int more = random.nextInt(3);
        plain(depth);
        for (int k = 0; k < more; k++) {
            add(random.nextBoolean() ? "and" : "or");
            plain(depth);
        }
    }

    private void plain(int depth) {
        while (random.nextInt(4) == 0) {
            add("not");
        }
        if (depth > 0 && random.nextInt(3) == 0) {
            int deep = random.nextInt(12) == 0 ? 6 + random.nextInt(4) : 1;
            for (int k = 0; k < deep; k++) {
                add("(");
            }
            test(depth - 1);
            for (int k = 0; k < deep; k++) {
                add(")");
            }
            return;
        }
        sum(depth);
        add("<>=".charAt(random.nextInt(3)) + "");
        sum(depth);
    }

    private void sum(int depth) {
        part(depth);
        int more = random.nextInt(random.nextInt(40) == 0 ? 60 : 3);
        for (int k = 0; k < more; k++) {
            add("+-*/".charAt(random.nextInt(4)) + "");
            part(depth);
        }
    }

    private void part(int depth) {
        switch (random.nextInt(8)) {
            case 0: add("full", glass()); break;
            case 1: add("size", glass()); break;
            case 2: add("taste", "" + random.nextInt(4), glass()); break;
            case 3: add("done"); break;
            case 4:
                if (depth > 0) {
                    int deep = random.nextInt(12) == 0 ? 6 + random.nextInt(4) : 1;
                    for (int k = 0; k < deep; k++) {
                        add("[");
                    }
                    sum(depth - 1);
                    for (int k = 0; k < deep; k++) {
                        add("]");
                    }
                    break;
                }
                add("2");
                break;
            case 5: add("" + random.nextInt(1001)); break;
            default: add("" + random.nextInt(6)); break;
        }
    }
}
