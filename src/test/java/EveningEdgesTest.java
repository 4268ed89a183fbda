/** The language of an evening at its edges: each token's place, each limit, and how it is run where it might not be. */
public final class EveningEdgesTest {
    public static void main(String[] args) {
        tokenByToken();
        eachByte();
        eachWord();
        eachNumber();
        numbersOfGlasses();
        textLength();
        thirteenthClause();
        fiftyFirstPart();
        ninthBracket();
        bracketsSideBySide();
        comparedAndTurned();
        runInOrder();
        ifAheadOfSum();
        askedEachTime();
        done();
        glassesThatAreNotThere();
        beyondTheMost();
        cutTowardsZero();
        dividedByZero();
        askedOnlyIfItMatters();
        brokenThroughAll();
        movesThatCannotBe();
        asItWasAhead();
        latestEvening();
        Check.close();
    }

    private static void due(String call, long got, long want) {
        Check.due(call, got, want);
    }

    /** Six glasses of 60: 30 of stuff 0 in glass 0, 10 and 20 of stuffs 1 and 2 in glass 1, the others empty. */
    private static WineSpoon table() {
        WineSpoon x = new WineSpoon();
        for (int g = 0; g < 6; g++) {
            x.glass(60);
        }
        x.fill(0, 0, 30);
        x.fill(1, 1, 10);
        x.fill(1, 2, 20);
        return x;
    }

    private static void fault(String text, int place) {
        WineSpoon x = table();
        due("<" + text + ">", Check.evening(x, text), -6);
        due("fault of <" + text + ">", x.fault(), place);
        due("stopped of <" + text + ">", x.stopped(), -1);
        due("nothing done by <" + text + ">", x.of(0, 1) * 100 + x.of(1, 1), 3030);
    }

    private static void done(String text, int moves) {
        WineSpoon x = table();
        due("<" + text + ">", Check.evening(x, text), moves);
        due("fault of <" + text + ">", x.fault(), -1);
        due("stopped of <" + text + ">", x.stopped(), -1);
    }

    private static void stops(String text, int clause) {
        WineSpoon x = table();
        due("<" + text + ">", Check.evening(x, text), -3);
        due("stopped of <" + text + ">", x.stopped(), clause);
        due("fault of <" + text + ">", x.fault(), -1);
        due("nothing done by <" + text + ">", x.of(0, 1) * 100 + x.of(1, 1), 3030);
    }

    /** A sum's value is as much as is filled into an empty glass; NONE if it can't be an amount. */
    private static void sum(String sum, int value) {
        WineSpoon x = table();
        due("<" + sum + ">", Check.evening(x, "fill 3 " + sum + " to 5"), value < 0 ? -3 : 1);
        due("value of <" + sum + ">", x.of(5, 1), Math.max(value, 0));
    }

    /** So is 1, not so is 0; a broken one is not so, and neither is its "not". */
    private static void test(String test, boolean so) {
        done("lick 1 from 0 if " + test, so ? 1 : 0);
    }

    private static void broken(String test) {
        test(test, false);
        test("not (" + test + ")", false);
    }

    // ---- how it is read

    /** A bar stands where a text may end. */
    private static void tokenByToken() {
        cutAndSpoil("spoon [ 1 + 2 ] * 3 / 4 - 0 from 0 to 1 | times 2 | if not ( full 0 < 2 or size 1 > 3 ) | and taste 2 1 = done |");
        cutAndSpoil("lick done - taste 3 5 + full 5 from 5 | times 20 | ; fill 3 size 2 to 4 | if 1 = 1 |");
        cutAndSpoil("fill 0 1 to 0 | if ( ( [ [ 1 ] ] = 1 ) ) | or not not 1 = 0 | ; spoon 1 from 2 to 3 |");
        cutAndSpoil("lick 7 from 0 | if 1 < 2 | and 2 < 3 | or 3 > 2 | + 1 | * 4 | - 5 |");
    }

    /** Ahead of each token: what is there is cut, or goes on with what can't go on anywhere. */
    private static void cutAndSpoil(String marked) {
        StringBuilder ahead = new StringBuilder();
        for (String token : marked.split(" ")) {
            boolean mayEnd = token.equals("|");
            if (!mayEnd) {
                for (String stray : new String[] {"!", "x", "\u00e9", "}", "1001", "fro"}) {
                    fault(ahead + stray, ahead.length());
                }
                if (!reads(ahead.toString())) {
                    fault(ahead.toString(), ahead.length());
                    fault(ahead + "   ", ahead.length() + 3);
                }
                ahead.append(token).append(' ');
            } else {
                due("<" + ahead + "> may end", reads(ahead.toString()) ? 1 : 0, 1);
                due("<" + ahead + "> may end with blanks", reads(ahead + "   ") ? 1 : 0, 1);
            }
        }
        due("bars stand wherever it may end", endings(marked), marked.length() - marked.replace("|", "").length());
    }

    private static boolean reads(String text) {
        WineSpoon x = table();
        return Check.evening(x, text) != -6 && x.fault() == -1;
    }

    private static int endings(String marked) {
        int endings = 0;
        StringBuilder ahead = new StringBuilder();
        for (String token : marked.replace(" |", "").split(" ")) {
            ahead.append(token).append(' ');
            endings += reads(ahead.toString()) ? 1 : 0;
        }
        return endings;
    }

    /** A blank is 32 and nothing else is; each other byte is a token of its own, letters and digits aside. */
    private static void eachByte() {
        for (int b = 0; b < 256; b++) {
            String sign = String.valueOf((char) b);
            if (b == ' ') {
                done("lick 1 from 0 " + sign, 1);
                done(sign + "lick 1 from 0", 1);
                done("lick" + sign + "1 from 0", 1);
            } else {
                fault("lick 1 from 0 " + sign, b == ';' ? 15 : 14);
                fault(sign + "lick 1 from 0", 0);
                boolean row = b >= 'a' && b <= 'z';
                boolean digit = b >= '0' && b <= '9';
                if (digit) {
                    done("lick" + sign + "-" + sign + "+1 from 0", 1);
                } else {
                    fault("lick" + sign + "1 from 0", row ? 0 : b == '[' ? 7 : 4);
                }
            }
            betweenNumbers(sign, b);
        }
        fault("LICK 1 from 0", 0);
        fault("lick 1 From 0", 7);
        fault("lick 1 fromm 0", 7);
        fault("lick_1 from 0", 4);
    }

    private static void betweenNumbers(String sign, int b) {
        String text = "lick 6" + sign + "2 from 0";
        if ("+-*/".indexOf(sign) >= 0) {
            done(text, 1);
        } else if (b == ' ') {
            fault(text, 7);
        } else if (b >= '0' && b <= '9') {
            stops(text, 0);
        } else {
            fault(text, 6);
        }
    }

    private static final String[] WORDS = {"spoon", "from", "to", "times", "if", "or", "and", "not", "full", "size", "taste",
        "done", "lick", "fill"};

    /** With any one letter another, one more, or one less, it is no word of the language. */
    private static void eachWord() {
        String text = "spoon 1 from 0 to 1 times 2 if 1 = 2 or 2 = 2 and not full 0 = size 0 and taste 0 0 > done;"
            + "lick 1 from 0;fill 0 1 to 0";
        done(text, 4);
        for (String word : WORDS) {
            int at = text.indexOf(word);
            String ahead = text.substring(0, at);
            String behind = text.substring(at + word.length());
            for (int k = 0; k < word.length(); k++) {
                char other = word.charAt(k) == 'z' ? 'a' : (char) (word.charAt(k) + 1);
                fault(ahead + word.substring(0, k) + other + word.substring(k + 1) + behind, at);
                fault(ahead + word.substring(0, k) + word.charAt(k) + word.substring(k) + behind, at);
            }
            fault(ahead + word + "s" + behind, at);
            fault(ahead + word.substring(0, word.length() - 1) + behind, at);
            fault(ahead + word.substring(1) + behind, at);
            fault(ahead + word.charAt(0) + " " + word.substring(1) + behind, at);
        }
    }

    /** Of each number of the language the least and the most, and the next one on either side. */
    private static void eachNumber() {
        String[] ahead = {"spoon 1 from ", "spoon 1 from 0 to ", "lick 1 from ", "fill 0 1 to ", "lick 1 + 0 * full ",
            "lick 1 + 0 * size ", "lick 1 + 0 * taste 0 ", "fill ", "lick 1 + 0 * taste ", "lick 0 * ", "lick 1 from 0 times "};
        String[] behind = {" to 1", "", "", "", " from 0", " from 0", " from 0", " 1 to 0", " 0 from 0", " + 1 from 0", ""};
        int[] least = {0, 0, 0, 0, 0, 0, 0, 0, 0, 0, 1};
        int[] most = {5, 5, 5, 5, 5, 5, 5, 3, 3, 1000, 20};
        for (int k = 0; k < ahead.length; k++) {
            for (int number : new int[] {least[k], most[k]}) {
                WineSpoon x = table();
                int answer = Check.evening(x, ahead[k] + number + behind[k]);
                due("no fault of <" + ahead[k] + number + behind[k] + ">", x.fault(), -1);
                due("nor -6", answer == -6 ? 1 : 0, 0);
                due("zeros ahead", Check.evening(table(), ahead[k] + "000" + number + behind[k]), answer);
            }
            fault(ahead[k] + (most[k] + 1) + behind[k], ahead[k].length());
            fault(ahead[k] + "-1" + behind[k], ahead[k].length());
            fault(ahead[k] + "4294967296" + behind[k], ahead[k].length());
            fault(ahead[k] + "18446744073709551616" + behind[k], ahead[k].length());
        }
        fault("lick 1 from 0 times 0", 20);
        fault("lick 1 from 0 times 00", 20);
        // these are numbers, no sums
        fault("lick 1 from [0]", 12);
        fault("lick 1 from 0+0", 13);
        fault("fill [0] 1 to 0", 5);
        fault("lick 1 from 0 times 1+1", 21);
        fault("lick full [0] from 0", 10);
        fault("lick taste 0 [0] from 0", 13);
    }

    private static void numbersOfGlasses() {
        for (int g = 0; g < 6; g++) {
            WineSpoon x = table();
            due("fill glass " + g, Check.evening(x, "fill 3 25 to " + g + "; spoon 1 from " + g + " to " + (g + 1) % 6 + "; lick 1 from " + g), 3);
            due("full of glass " + g, x.of(g, 1), g < 2 ? 53 : 23);
            due("full of the next one", x.of((g + 1) % 6, 1), g == 0 || g == 5 ? 31 : 1);
            due("asked of glass " + g, Check.evening(x, "lick 1 from " + g + " if full " + g + " = " + x.of(g, 1) + " and size " + g + " = 60"), 1);
            for (int s = 0; s < 4; s++) {
                due("tasted", Check.evening(x, "lick 1 from " + g + " if taste " + s + " " + g + " = " + x.taste(g, s)), 1);
                due("filled", Check.evening(x, "fill " + s + " 1 to " + g), 1);
                due("tasted again", Check.evening(x, "lick 1 from " + g + " if taste " + s + " " + g + " = " + x.taste(g, s)), 1);
            }
        }
    }

    private static void textLength() {
        fault("", 0);
        for (int length : new int[] {1, 19, 20, 21, 399, 400}) {
            fault(" ".repeat(length), length);
        }
        done(" ".repeat(387) + "lick 1 from 0", 1);
        done("lick 1 from 0" + " ".repeat(387), 1);
        fault(" ".repeat(388) + "lick 1 from ", 400);
        fault(" ".repeat(387) + "lick 1 from x", 399);
        fault(" ".repeat(395) + "spoon", 400);
        // what was on the tape behind its end is no longer there
        WineSpoon x = table();
        Check.tell(x, "lick 1 from 0; lick 60 from 0 times 3");
        x.end(13);
        due("the first clause alone", x.evening(), 1);
        Check.tell(x, "lick 1 from 0 times 12");
        x.end(21);
        due("the first digit alone", x.evening(), 1);
        due("full", x.of(0, 1), 28);
        Check.tell(x, "lick 1 from 0");
        x.end(3);
        due("a word cut", x.evening(), -6);
        due("its place", x.fault(), 0);
        Check.tell(x, "spoon 2 from 0 to 1");
        x.end(18);
        due("the last number cut", x.evening(), -6);
        due("its place", x.fault(), 18);
    }

    private static String many(String what, int times, String between) {
        return (what + between).repeat(times - 1) + what;
    }

    private static void thirteenthClause() {
        String[] clauses = {"lick 1 from 0", "fill 0 1 to 0", "spoon 1 from 0 to 1"};
        for (String clause : clauses) {
            done(many(clause, 11, ";"), 11);
            done(many(clause, 12, ";"), 12);
            fault(many(clause, 13, ";"), 12 * (clause.length() + 1));
            fault(many(clause, 13, "  ;  "), 12 * (clause.length() + 5));
            fault(many(clause, 14, ";"), 12 * (clause.length() + 1));
        }
        String twelve = many("lick 1 from 0", 12, ";");
        fault(twelve + ";", twelve.length() + 1);
        fault(twelve + ";;", twelve.length() + 1);
        fault(twelve + " 13", twelve.length() + 1);
        fault(twelve + ";      13", twelve.length() + 7);
        // the twelfth may have its times and if
        done(twelve + " times 2 if 1 = 1", 13);
        // faults ahead of the thirteenth are ahead
        fault("lick 1 from 6;" + twelve, 12);
    }

    private static void readsOnly(String text) {
        due("<" + text + "> is read", reads(text) ? 1 : 0, 1);
    }

    /** The 50th and the 51st of each kind, in a sum, in a test, in brackets and in a later clause. */
    private static void fiftyFirstPart() {
        String nine = many("0", 9, "+");
        for (String part : new String[] {"7", "full 2", "size 2", "taste 0 2", "done"}) {
            readsOnly("lick " + many("0", 49, "+") + "+" + part + " from 0");
            fault("lick " + many("0", 50, "+") + "+" + part + " from 0", 5 + 2 * 50);
            fault("lick " + many("0", 50, "+") + "+[[" + part + "]] from 0", 5 + 2 * 50 + 2);
            readsOnly("lick 1 from 0 if " + many("0", 48, "+") + "=" + part);
            fault("lick 1 from 0 if " + many("0", 49, "+") + "=" + part, 17 + 2 * 49);
            fault("lick 1 from 0 if " + many("0", 49, "+") + "=[" + part + "]", 17 + 2 * 49 + 1);
            String clauses = many("lick " + nine + " from 0", 5, ";");
            readsOnly(clauses + ";lick 1+2+3+4+" + part + " from 0");
            fault(clauses + ";lick 1+2+3+4+5+" + part + " from 0", clauses.length() + 16);
            // as many of the kind itself
            readsOnly("lick " + many(part, 25, "+") + " from 0 if " + many("1", 24, "+") + "=" + part);
            fault("lick " + many(part, 25, "+") + " from 0 if " + many("1", 25, "+") + "=" + part,
                5 + 25 * (part.length() + 1) - 1 + 11 + 50);
        }
        // words that are no part at all have their fault where they stand, too
        fault("lick " + many("0", 50, "+") + "+from 0", 5 + 2 * 50);
        fault("lick " + many("0", 50, "+") + "+ ", 5 + 2 * 50 + 1);
        // numbers of glasses, stuffs and times are none of the fifty
        readsOnly("spoon " + many("taste 3 5", 25, "+") + " from 5 to 4 times 20 if " + many("1", 24, "+") + "=taste 0 0");
        readsOnly(many("fill 3 1 to 5 times 20 if 1=1", 12, ";"));
    }

    private static void ninthBracket() {
        for (int round = 0; round <= 8; round++) {
            String open = "(".repeat(round) + "[".repeat(8 - round);
            String close = "]".repeat(8 - round) + "=1" + ")".repeat(round);
            done("lick 1 from 0 if " + open + "1" + close, 1);
            fault("lick 1 from 0 if " + open + "[1]" + close, 17 + 8);
            fault("lick 1 from 0 if " + open + "[", 17 + 8);
        }
        fault("lick 1 from 0 if " + "(".repeat(9), 17 + 8);
        fault("lick " + "[".repeat(9), 5 + 8);
        fault("lick " + "[".repeat(8), 5 + 8);
        fault("lick " + "[".repeat(8) + "1" + "]".repeat(7) + " from 0", 5 + 8 + 1 + 7 + 1);
        fault("lick " + "[".repeat(8) + "1" + "]".repeat(9) + " from 0", 5 + 8 + 1 + 8);
        // "not" is no bracket
        done("lick 1 from 0 if " + "not(".repeat(8) + "1=1" + ")".repeat(8), 1);
        fault("lick 1 from 0 if " + "not(".repeat(9) + "1=1" + ")".repeat(9), 17 + 4 * 8 + 3);
    }

    /** Brackets that are not within one another can be any number of them. */
    private static void bracketsSideBySide() {
        sum(many("[1]", 40, "+"), 40);
        sum("[[[[1]]]]+[[[[[[[[1]]]]]]]]+[1]", 3);
        test(many("(1=1)", 24, "and"), true);
        test("((((((((1=1))))))))and((((((((1=[1]))))))))".replace("[1]", "1"), true);
        fault("lick 1 from 0 if ((((((((1=1))))))))and((((((((1=[1]))))))))", 17 + 22 + 8 + 2);
        done("lick [[[[[[[[1]]]]]]]] from 0 if [[[[[[[[1]]]]]]]]=1;lick [[[[[[[[1]]]]]]]] from 0", 2);
    }

    // ---- how it is run

    private static void comparedAndTurned() {
        String[] signs = {"<", "=", ">"};
        for (int left = 1; left <= 3; left++) {
            for (int k = 0; k < 3; k++) {
                boolean so = left == k + 1;
                String test = left + signs[k] + "2";
                test(test, so);
                test("not " + test, !so);
                test("not not " + test, so);
                test("not (" + test + ")", !so);
                test("(not " + test + ") and 1=1", !so);
                test("not " + test + " or 1=2", !so);
            }
        }
        test("0-1<0", true);
        test("0-2<0-1", true);
        test("0-1>0-2", true);
        test("1-1=0", true);
        // "not" takes the next plain test alone, "and" is ahead of "or"
        test("not 1=2 and 1=2", false);
        test("not (1=2 and 1=2)", true);
        test("1=1 or 1=1 and 1=2", true);
        test("(1=1 or 1=1) and 1=2", false);
        test("1=2 and 1=2 or 1=1", true);
        test("1=2 and (1=2 or 1=1)", false);
        sum("2+3*4-5*2", 4);
        sum("[2+3]*[4-2]", 10);
        sum("20-5-3", 12);
        sum("20-[5-3]", 18);
        sum("48/4/2", 6);
        sum("48/[4/2]", 24);
        sum("6*5/4", 7);
        sum("6/4*5", 5);
    }

    private static void runInOrder() {
        WineSpoon x = table();
        due("one by one", Check.evening(x, "fill 3 5 to 5; spoon 5 from 5 to 4; spoon 2 from 4 to 5 times 2"), 4);
        due("full 5", x.of(5, 1), 4);
        due("full 4", x.of(4, 1), 1);
        stops("spoon 5 from 5 to 4; fill 3 5 to 5", 0);
        due("twenty times", Check.evening(x, "lick 4 from 5; fill 2 3 to 5 times 20"), 21);
        due("full 5", x.of(5, 1), 60);
        due("times 1 is once", Check.evening(x, "lick 1 from 5 times 1"), 1);
        due("without times it is once", Check.evening(x, "lick 1 from 5"), 1);
        due("full 5", x.of(5, 1), 58);
        // as many moves as can be
        String most = many("fill 1 1 to 3 times 20;lick 1 from 3 times 20", 6, ";");
        due("twelve clauses by twenty", Check.evening(x, most), 240);
        due("full 3", x.of(3, 1), 0);
    }

    private static void ifAheadOfSum() {
        done("lick 1/0 from 0 if 1 = 2", 0);
        stops("lick 1/0 from 0 if 1 = 1", 0);
        done("lick 1/0 from 0 if 1/0 = 1", 0);
        done("lick 60 from 5 if full 5 > 59", 0);
        done("spoon 1 from 0 to 0 times 20 if 2 < 1", 0);
        done("lick 0 from 0 if done > 0; lick 1 from 0", 1);
    }

    private static void askedEachTime() {
        WineSpoon x = table();
        due("the test", Check.evening(x, "lick 10 from 0 times 20 if full 0 > 5"), 3);
        due("full", x.of(0, 1), 0);
        x = table();
        due("the sum", Check.evening(x, "lick full 0 / 2 from 0 times 4"), 4);
        due("30, 15, 8, 4, 2", x.of(0, 1), 2);
        x = table();
        due("taste on the way", Check.evening(x, "spoon 5 from 1 to 0 times 6 if taste 0 0 > 80"), 2);
        due("85, then 75", x.taste(0, 0), 75);
        due("size stays", Check.evening(x, "lick 1 from 0 times 3 if size 0 = 60"), 3);
    }

    private static void done() {
        WineSpoon x = table();
        due("0, 1, 2", Check.evening(x, "fill 3 done + 1 to 5 times 3"), 3);
        due("1 and 2 and 3", x.of(5, 1), 6);
        due("moves that were not made are not done", Check.evening(x, "lick 1 from 5 times 5 if 1 = 2; fill 3 done + 7 to 4"), 1);
        due("7", x.of(4, 1), 7);
        due("through clauses", Check.evening(x, "lick 1 from 0 times 2; lick 1 from 1; fill 3 done to 3"), 4);
        due("3", x.of(3, 1), 3);
        due("in this evening", Check.evening(x, "fill 3 done + 1 to 2"), 1);
        due("1", x.of(2, 1), 1);
        due("not those of one that ended", Check.evening(x, "lick 1 from 0 times 3; lick 60 from 5"), -3);
        due("again", Check.evening(x, "fill 3 done + 1 to 2"), 1);
        due("2", x.of(2, 1), 2);
    }

    private static void glassesThatAreNotThere() {
        WineSpoon x = new WineSpoon();
        due("without any", Check.evening(x, "lick 1 from 0 if full 0 + size 0 + taste 0 0 > 0"), 0);
        x.glass(60);
        x.glass(7);
        due("all are 0", Check.evening(x, "fill 3 full 2 + size 3 + taste 0 4 + taste 3 5 + 1 to 0"), 1);
        due("1", x.of(0, 1), 1);
        due("an empty one has a size", Check.evening(x, "fill 3 full 1 + size 1 + taste 3 1 to 0"), 1);
        due("7 more", x.of(0, 1), 8);
        due("asked of one that is not there", Check.evening(x, "lick 1 from 0 if full 5 = 0 and size 5 = 0 and taste 3 5 = 0"), 1);
        due("by it nothing can be divided", Check.evening(x, "lick 1 / size 2 from 0"), -3);
    }

    private static final String MILLIARD = "1000*1000*1000";

    private static void beyondTheMost() {
        sum(MILLIARD + "/1000/1000/100", 10);
        sum("[" + MILLIARD + "-1]/1000/1000/100", 9);
        sum("[" + MILLIARD + "+1-1]/1000/1000/100", -1);
        sum("[" + MILLIARD + "+0]/1000/1000/100", 10);
        sum("[0-" + MILLIARD + "]/1000/1000/[0-100]", 10);
        sum("[0-" + MILLIARD + "-1]/1000/1000/[0-100]", -1);
        sum("[0-1-" + MILLIARD + "]/1000/1000/[0-100]", -1);
        sum("[1-" + MILLIARD + "]/1000/1000/[0-100]", 9);
        sum("[0-1000]*1000*1000*[0-1]/1000/1000/100", 10);
        sum(MILLIARD + "*1/1000/1000/100", 10);
        sum(MILLIARD + "*2/1000/1000/100", -1);
        sum("1000*1000*[1000+1]/1000/1000/100", -1);
        sum("[0-1000*1000]*[1000+1]/1000/1000/[0-100]", -1);
        sum("[" + MILLIARD + "]*[" + MILLIARD + "]/1000/1000", -1);
        sum("[" + MILLIARD + "]*[0-" + MILLIARD + "]*0+1", -1);
        // one that is not asked can't be broken
        test(MILLIARD + "=" + MILLIARD, true);
        test("0-" + MILLIARD + "<" + MILLIARD, true);
        broken(MILLIARD + "+1>0");
        broken("0<" + MILLIARD + "+1");
        broken("0-" + MILLIARD + "-1<0");
        broken("0=" + MILLIARD + "*2");
    }

    private static void cutTowardsZero() {
        sum("7/2", 3);
        sum("10+[0-7]/2", 7);
        sum("10+7/[0-2]", 7);
        sum("[0-7]/[0-2]", 3);
        sum("1+1/2", 1);
        sum("1+[0-1]/2", 1);
        sum("1+1/[0-2]", 1);
        sum("6/2", 3);
        sum("10+[0-6]/2", 7);
        sum("7/2*2", 6);
        sum("1+0/5", 1);
    }

    private static void dividedByZero() {
        String[] sums = {"1/0", "0/0", "1/[1-1]", "1/done", "1/full 5", "1/taste 3 0", "5*0/0", "0*[1/0]+1", "1+1/0", "[1/0]",
            "1/[0*5]", "7-1/0"};
        for (String sum : sums) {
            stops("lick " + sum + " from 0", 0);
            broken(sum + "=1");
            broken("1>" + sum);
        }
    }

    private static void askedOnlyIfItMatters() {
        String yes = "1=1";
        String no = "1=2";
        String bad = "1/0=1";
        test(yes + " or " + bad, true);
        test(yes + " or " + bad + " or " + bad, true);
        test(no + " or " + yes + " or " + bad, true);
        test(yes + " or " + bad + " and " + bad, true);
        test(yes + " and " + yes + " or " + bad, true);
        test("(" + yes + " or " + bad + ") and " + yes, true);
        test("not (" + no + " and " + bad + ")", true);
        test("not (" + no + " and " + bad + " and " + bad + ")", true);
        test("not (" + yes + " and " + no + " and " + bad + ")", true);
        test(no + " and " + bad + " or " + yes, true);
        test("not (" + no + " and (" + bad + " or " + bad + "))", true);
        test("not (not (" + yes + " or " + bad + "))", true);
        test("not (" + yes + " or " + bad + ")", false);
        // it is asked of the whole ahead: not so, and so what stands behind matters
        broken(no + " or " + bad);
        broken(yes + " and " + bad);
        broken(no + " and " + bad + " or " + bad);
        broken(no + " or " + no + " or " + bad);
        broken(yes + " and " + yes + " and " + bad);
    }

    private static void brokenThroughAll() {
        String bad = "1/0=1";
        broken(bad);
        broken("not " + bad);
        broken("not not " + bad);
        broken("((" + bad + "))");
        broken(bad + " or 1=1");
        broken(bad + " and 1=2");
        broken("(" + bad + " or 1=1) or 1=1");
        broken("1=1 and (1=2 or " + bad + ")");
        broken("not (1=2) and " + bad);
        // a clause that is not made is no stop: the next one is run
        done("lick 1 from 0 if " + bad + "; lick 1 from 0 times 2", 2);
    }

    private static void movesThatCannotBe() {
        for (String amount : new String[] {"0", "61", "1000", "0-1", "1/0", MILLIARD + "+1", "full 5", "1-2+1"}) {
            stops("spoon " + amount + " from 0 to 5", 0);
            stops("lick " + amount + " from 0", 0);
            stops("fill 0 " + amount + " to 5", 0);
        }
        done("fill 0 60 to 5; spoon 60 from 5 to 4; lick 60 from 4", 3);
        stops("spoon 1 from 0 to 0", 0);
        stops("spoon 31 from 0 to 5", 0);
        done("spoon 30 from 0 to 5", 1);
        stops("fill 0 31 to 5; spoon 30 from 0 to 5", 1);
        done("fill 0 30 to 5; spoon 30 from 0 to 5", 2);
        stops("lick 31 from 0", 0);
        done("lick 30 from 0", 1);
        stops("fill 0 31 to 0", 0);
        done("fill 0 30 to 0", 1);
        WineSpoon x = new WineSpoon();
        x.glass(60);
        x.glass(60);
        x.fill(0, 0, 30);
        for (String text : new String[] {"spoon 1 from 0 to 2", "spoon 1 from 2 to 0", "spoon 1 from 5 to 4", "lick 1 from 2", "fill 0 1 to 2"}) {
            due(text, Check.evening(x, text), -3);
            due("stopped of " + text, x.stopped(), 0);
        }
        due("nothing done", x.of(0, 1), 30);
    }

    /** All that was done is undone, wherever it ends. */
    private static void asItWasAhead() {
        String[] texts = {"lick 60 from 5", "spoon 7 from 0 to 1; spoon 11 from 1 to 0; lick 60 from 5",
            "spoon 7 from 0 to 1 times 20", "fill 3 1 to 5 times 20; fill 3 20 to 5 times 3", "lick 20 from 0; lick 30 from 1; lick 20 from 0",
            many("lick 1 from 0", 11, ";") + ";lick 60 from 0"};
        int[] clauses = {0, 2, 0, 1, 2, 11};
        for (int k = 0; k < texts.length; k++) {
            WineSpoon x = table();
            x.spoon(0, 1, 7);
            x.spoon(1, 2, 5);
            Look ahead = Look.at(x);
            due(texts[k], Check.evening(x, texts[k]), -3);
            due("stopped of " + texts[k], x.stopped(), clauses[k]);
            due("the tape is empty", x.count(4), 0);
            // a good one that does nothing makes the stop as it was
            due("nothing", Check.evening(x, "lick 1 from 0 if 1 = 2"), 0);
            ahead.same(texts[k], Look.at(x));
        }
    }

    /** fault() and stopped() tell of the latest evening alone. */
    private static void latestEvening() {
        WineSpoon x = table();
        due("no evening: fault", x.fault(), -1);
        due("no evening: stopped", x.stopped(), -1);
        Check.evening(x, "lick");
        due("fault", x.fault(), 4);
        due("not stopped", x.stopped(), -1);
        Check.evening(x, "lick 1 from 0; lick 60 from 5");
        due("no fault", x.fault(), -1);
        due("stopped", x.stopped(), 1);
        Check.evening(x, "!");
        due("fault at the first place", x.fault(), 0);
        due("no longer stopped", x.stopped(), -1);
        Check.evening(x, "lick 1 from 5");
        due("stopped by the first", x.stopped(), 0);
        Check.evening(x, "lick 1 from 0");
        due("all well: fault", x.fault(), -1);
        due("all well: stopped", x.stopped(), -1);
        // other calls, refused ones too, do not change them
        Check.evening(x, "lick 1 from 5");
        x.lick(0, 60);
        x.end(0);
        x.row();
        x.spoon(0, 1, 1);
        due("still stopped", x.stopped(), 0);
        due("still no fault", x.fault(), -1);
        due("an empty tape is a text that can't be", x.evening(), -6);
        due("at its end", x.fault(), 0);
    }
}
