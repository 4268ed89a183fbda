/** The language of an evening: how it is read, where its fault is, and how it is run. */
public final class EveningTest {
    public static void main(String[] args) {
        tokens();
        faultsOfClauses();
        faultsOfNumbers();
        faultsOfTests();
        mostClauses();
        mostParts();
        mostBrackets();
        wholeTape();
        sums();
        broken();
        tests();
        timesAndDone();
        missingGlasses();
        oneAfterAnother();
        Check.close();
    }

    /** Glass 0 of 60 with six of stuff 0 and three of stuff 1, glass 1 of 9 that is empty. */
    private static WineSpoon table() {
        WineSpoon x = new WineSpoon();
        x.glass(60);
        x.glass(9);
        x.fill(0, 0, 6);
        x.fill(0, 1, 3);
        return x;
    }

    private static void faultAt(int place, String text) {
        WineSpoon x = table();
        Check.due("<" + text + ">", Check.evening(x, text), -6);
        Check.due("fault of <" + text + ">", x.fault(), place);
        Check.due("stopped of <" + text + ">", x.stopped(), -1);
        Check.due("full behind <" + text + ">", x.of(0, 1), 9);
    }

    private static void reads(String text, int done) {
        WineSpoon x = table();
        Check.due("<" + text + ">", Check.evening(x, text), done);
        Check.due("fault of <" + text + ">", x.fault(), -1);
    }

    /** The sum's value, if it is 1 to 51: so much is filled in. */
    private static void sum(String sum, int value) {
        WineSpoon x = table();
        Check.due("fill <" + sum + ">", Check.evening(x, "fill 2 " + sum + " to 0"), value == -3 ? -3 : 1);
        Check.due("filled in by <" + sum + ">", x.of(0, 1) - 9, value == -3 ? 0 : value);
    }

    private static void test(String test, boolean so) {
        reads("lick 1 from 0 if " + test, so ? 1 : 0);
    }

    private static void tokens() {
        reads("lick 1 from 0", 1);
        reads("  lick   1   from 0  ", 1);
        reads("lick1from0", 1);
        reads("spoon[1]from0to1times2if1<2and(1=1);lick1from1", 3);
        reads("lick 0001 from 00", 1);
        reads("lick 1 from 0 times 0020 if 1=2", 0);
        faultAt(0, "licks1 from0");
        faultAt(0, "lic k1 from 0");
        faultAt(0, "Lick 1 from 0");
        faultAt(4, "lick\t1 from 0");
        faultAt(13, "lick 1 from 0\0");
        faultAt(14, "lick 1 from 0 \u00ff");
        faultAt(7, "lick 1 0 from 0");
        faultAt(0, "lickfrom");
        faultAt(0, "\n");
    }

    private static void faultsOfClauses() {
        faultAt(0, "");
        faultAt(3, "   ");
        faultAt(0, ";");
        faultAt(0, "1");
        faultAt(4, "lick");
        faultAt(6, "lick  ");
        faultAt(5, "lick from 0");
        faultAt(6, "lick 1");
        faultAt(7, "lick 1 to 0");
        faultAt(11, "lick 1 from");
        faultAt(12, "lick 1 from to 0");
        faultAt(14, "lick 1 from 0 to 1");
        faultAt(15, "spoon 1 from 0 times 2");
        faultAt(8, "spoon 1 to 1 from 0");
        faultAt(18, "spoon 1 from 0 to ");
        faultAt(18, "spoon 1 from 0 to 6");
        faultAt(12, "fill 0 1 to 7");
        faultAt(5, "fill [1] to 0");
        faultAt(7, "fill 0 to 0");
        faultAt(9, "fill 0 1 from 0");
        faultAt(14, "lick 1 from 0 lick 1 from 0");
        faultAt(14, "lick 1 from 0;");
        faultAt(16, "lick 1 from 0;  ");
        faultAt(14, "lick 1 from 0;;lick 1 from 0");
        faultAt(23, "lick 1 from 0 if 1 = 1 times 2");
        faultAt(22, "lick 1 from 0 times 2 times 2");
        faultAt(23, "lick 1 from 0 if 1 = 1 if 1 = 1");
        faultAt(13, "lick 1 from 0+1");
        faultAt(5, "lick -1 from 0");
        faultAt(5, "lick (1) from 0");
        faultAt(9, "lick 1 + from 0");
        faultAt(9, "lick 1 * / 2 from 0");
        faultAt(7, "lick 1 < 2 from 0");
        faultAt(7, "lick [1) from 0");
        faultAt(6, "lick [] from 0");
        faultAt(6, "lick 1] from 0");
    }

    private static void faultsOfNumbers() {
        reads("fill 3 1 to 0", 1);
        faultAt(5, "fill 4 1 to 0");
        Check.due("glass 5 is not there", Check.evening(table(), "lick 1 from 5"), -3);
        faultAt(12, "lick 1 from 6");
        faultAt(12, "lick 1 from 99999999999999999999999999");
        faultAt(12, "lick 1 from 4294967296");
        reads("lick 1 from 0 times 1", 1);
        faultAt(20, "lick 1 from 0 times 0");
        faultAt(20, "lick 1 from 0 times 21");
        faultAt(20, "lick 1 from 0 times [1]");
        faultAt(20, "lick 1 from 0 times done");
        reads("lick 1000/1000 from 0", 1);
        faultAt(5, "lick 1001/1001 from 0");
        faultAt(5, "lick 4294967297 from 0");
        faultAt(5, "lick 18446744073709551617 from 0");
        faultAt(12, "lick 1 from done");
        faultAt(10, "lick full 6 from 0");
        faultAt(10, "lick size from 0");
        faultAt(11, "lick taste 4 0 from 0");
        faultAt(13, "lick taste 3 6 from 0");
        faultAt(13, "lick taste 3 from 0");
        faultAt(10, "lick done 1 from 0");
    }

    private static void faultsOfTests() {
        faultAt(16, "lick 1 from 0 if");
        faultAt(18, "lick 1 from 0 if 1");
        faultAt(20, "lick 1 from 0 if 1 <");
        faultAt(19, "lick 1 from 0 if 1 and 2 = 2");
        faultAt(21, "lick 1 from 0 if 1 < (2)");
        faultAt(20, "lick 1 from 0 if 1 <= 2");
        faultAt(23, "lick 1 from 0 if 1 < 2 < 3");
        faultAt(26, "lick 1 from 0 if 1 < 2 or ");
        faultAt(25, "lick 1 from 0 if 1<2 and or 1<2");
        faultAt(21, "lick 1 from 0 if not or 1 < 2");
        faultAt(19, "lick 1 from 0 if (1)=1");
        faultAt(19, "lick 1 from 0 if (1");
        faultAt(21, "lick 1 from 0 if (1=1]");
        faultAt(17, "lick 1 from 0 if ) 1=1");
        faultAt(22, "lick 1 from 0 if (1=1 ");
        faultAt(19, "lick 1 from 0 if [1=1]");
        faultAt(18, "lick 1 from 0 if ()");
        faultAt(23, "lick 1 from 0 if 1 = 1 not 1 = 1");
    }

    private static String many(String what, int times, String between) {
        StringBuilder text = new StringBuilder(what);
        for (int k = 1; k < times; k++) {
            text.append(between).append(what);
        }
        return text.toString();
    }

    private static void mostClauses() {
        String clause = "fill 0 1 to 0";
        reads(many(clause, 12, ";"), 12);
        faultAt(14 * 12, many(clause, 13, ";"));
        faultAt(14 * 12 + 2, many(clause, 12, ";") + ";  nothing");
        faultAt(14 * 12, many(clause, 12, ";") + ";");
        faultAt(14 * 12 + 3, many(clause, 12, ";") + ";   ");
    }

    private static void mostParts() {
        sum(many("1", 50, "+"), 50);
        faultAt(7 + 100, "fill 2 " + many("1", 51, "+") + " to 0");
        // G, S and TIMES are no parts, nor are brackets
        String fifty = "fill 0 " + many("done", 24, "+") + "+[[full 0]]+size 1 to 0 times 1 if " + many("1", 23, "+") + " > taste 2 1";
        reads(fifty, 1);
        faultAt(fifty.length() + 1, fifty + "+full 0");
        faultAt(fifty.length() + 1, fifty + "+1");
        faultAt(fifty.length() + 2, fifty + "+[1]");
        // they are counted through all clauses
        String five = "fill 0 1 to 0 if 1=1 or 1=1";
        reads(many(five, 10, ";"), 10);
        faultAt(10 * (five.length() + 1) + 7, many(five, 11, ";"));
    }

    private static void mostBrackets() {
        sum("[".repeat(8) + "7" + "]".repeat(8), 7);
        faultAt(7 + 8, "fill 2 " + "[".repeat(9) + "7" + "]".repeat(9) + " to 0");
        sum("[".repeat(8) + "7" + "]".repeat(8) + "+" + "[".repeat(8) + "7" + "]".repeat(8), 14);
        test("(".repeat(8) + "1=1" + ")".repeat(8), true);
        faultAt(17 + 8, "lick 1 from 0 if " + "(".repeat(9) + "1=1" + ")".repeat(9));
        test("((((" + "[[[[1]]]]=1" + "))))", true);
        faultAt(17 + 8, "lick 1 from 0 if ((((" + "[[[[[1]]]]]=1" + "))))");
        test("((((((((1=1)))))))) and not ((((((((1=1))))))))", false);
        test("not ".repeat(50) + "1=1", true);
        test("not ".repeat(51) + "1=1", false);
    }

    private static void wholeTape() {
        String text = "lick 1 from 0";
        reads(text + " ".repeat(400 - text.length()), 1);
        faultAt(399, text + " ".repeat(399 - text.length()) + "x");
        faultAt(400, text + " ".repeat(399 - text.length()) + ";");
        faultAt(0, "x".repeat(400));
        faultAt(0, ";".repeat(400));
        faultAt(20, "lick 1 from 0 if 1=1" + "(".repeat(380));
        faultAt(400, "lick 1 from 0 if " + "not ".repeat(95) + "   ");
        faultAt(5, "lick " + "9".repeat(395));
        faultAt(400, "lick " + "0".repeat(395));
        reads("lick " + "0".repeat(380) + "1 from 0", 1);
    }

    private static void sums() {
        sum("2+3*4", 14);
        sum("[2+3]*4", 20);
        sum("20-3-4", 13);
        sum("20-[3-4]", 21);
        sum("40/3/2", 6);
        sum("7*5/3", 11);
        sum("7*[5/3]", 7);
        sum("[3-10]/2+10", 7);
        sum("[0-7]/[0-2]", 3);
        sum("full 0", 9);
        sum("size 1 + full 1", 9);
        sum("taste 0 0 - taste 1 0", 33);
        sum("taste 0 0 / 2", 33);
        sum("done + 1", 1);
        sum("51", 51);
        sum("52", -3);
        reads("lick full 0 from 0; fill 0 60 to 0; lick 60 from 0", 3);
        sum("61", -3);
        sum("0", -3);
        sum("3 - 4", -3);
    }

    private static void broken() {
        sum("1000*1000*1000/1000/1000/1000", 1);
        sum("[1000*1000*1000+1]/1000/1000/1000", -3);
        sum("[0-1000*1000*1000]/1000/1000/[0-1000]", 1);
        sum("[0-1000*1000*1000-1]/1000/1000/[0-1000]", -3);
        sum("1000*1000*1000*2/1000/1000/1000", -3);
        sum("1/0", -3);
        sum("1/[2-2]+1", -3);
        sum("0*[1/0]+1", -3);
        test("1/0 = 1", false);
        test("not 1/0 = 1", false);
        test("not not 1/0 = 1", false);
        test("1 = 1 or 1/0 = 1", true);
        test("1 = 2 or 1/0 = 1", false);
        test("not (1 = 2 or 1/0 = 1)", false);
        test("1/0 = 1 or 1 = 1", false);
        test("1 = 2 and 1/0 = 1", false);
        test("not (1 = 2 and 1/0 = 1)", true);
        test("not (1 = 1 and 1/0 = 1)", false);
        test("1 = 2 and 1/0 = 1 or 1 = 1", true);
        test("1 = 1 or 1 = 1 and 1/0 = 1", true);
        test("1000*1000*1000 > 1000*1000*1000 - 1", true);
        test("1000*1000*1000+1 > 1", false);
        reads("lick 1 from 0 times 3 if 2/[done-1] < 0", 1);
    }

    private static void tests() {
        test("1 < 2", true);
        test("2 < 2", false);
        test("3 > 2", true);
        test("2 > 2", false);
        test("2 = 2", true);
        test("2 = 3", false);
        test("not 2 = 3", true);
        test("not 2 = 2 or 1 = 1", true);
        test("not (2 = 2 or 1 = 1)", false);
        test("1 = 1 or 1 = 1 and 1 = 2", true);
        test("(1 = 1 or 1 = 1) and 1 = 2", false);
        test("1 = 2 and 1 = 1 or 1 = 1", true);
        test("1 = 2 and (1 = 1 or 1 = 1)", false);
        test("1 = 2 or 1 = 2 or 1 = 1", true);
        test("1 = 1 and 1 = 1 and 1 = 2", false);
        test("1 = 2 or 2 = 2 and 3 = 3", true);
        test("full 0 = 9 and size 0 = 60 and taste 0 0 = 66 and taste 1 0 = 33 and done = 0", true);
    }

    private static void timesAndDone() {
        WineSpoon x = table();
        Check.due("as often as told", Check.evening(x, "lick 1 from 0 times 9"), 9);
        Check.due("full", x.of(0, 1), 0);
        Check.due("each time asked", Check.evening(x, "fill 3 done+1 to 0 times 20 if full 0 < 10"), 4);
        Check.due("full", x.of(0, 1), 10);
        Check.due("done goes on through clauses", Check.evening(x, "lick 1 from 0 times 2; fill 1 done to 1; fill 1 done to 1"), 4);
        Check.due("full", x.of(1, 1), 5);
        Check.due("done begins anew", Check.evening(x, "lick 1 from 1 times 20 if done < 2"), 2);
        Check.due("a later time that can't be", Check.evening(x, "lick 1 from 1; lick 1 from 1 times 3"), -3);
        Check.due("stopped", x.stopped(), 1);
        Check.due("full", x.of(1, 1), 3);
        Check.due("moves that are not made can't fail", Check.evening(x, "lick 60 from 5 times 20 if 1 = 2"), 0);
        Check.due("stopped", x.stopped(), -1);
    }

    /** Nothing of an evening is left for the next one. */
    private static void oneAfterAnother() {
        WineSpoon x = table();
        for (int k = 0; k < 8; k++) {
            Check.due("forty parts", Check.evening(x, "lick " + many("1", 40, "+") + "-39 from 0"), 1);
        }
        Check.due("a fault far behind", Check.evening(x, "lick 1 from 0;" + many("lick 1 from 0", 11, ";") + " if (1"), -6);
        Check.due("the next one", Check.evening(x, "fill 0 1 to 0; fill 0 1 to 0"), 2);
        Check.due("lowest terms behind it", x.lower(), 3);
        Check.due("and behind more moves", Check.evening(x, "spoon 1 from 0 to 1; spoon 1 from 1 to 0"), 2);
        Check.due("lower, all back in one", x.lower(), 3);
        Check.due("part", x.part(0, 0) + x.part(0, 1), 9);
    }

    private static void missingGlasses() {
        sum("full 5 + size 5 + taste 3 5 + 1", 1);
        test("full 2 = 0 and size 2 = 0 and taste 0 2 = 0", true);
        WineSpoon x = new WineSpoon();
        Check.due("without glasses", Check.evening(x, "fill 0 1 to 0"), -3);
        Check.due("without glasses, not so", Check.evening(x, "fill 0 1 to 0 if size 0 > 0"), 0);
    }
}
