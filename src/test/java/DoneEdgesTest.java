import java.util.Arrays;

/** The edges of how a write is DONE, as 'Terms' says it: sums that wrap, tests, effects, rules. */
public final class DoneEdgesTest {
    private static final int[] VALUES = {
        Check.LOWEST, Check.LOWEST + 1, -65536, -46341, -2, -1, 0, 1, 2, 46340, 46341, 65536,
        Check.HIGHEST - 1, Check.HIGHEST
    };

    public static void main(String[] args) {
        intsThatWrap();
        comparesOfFarInts();
        andOfAll();
        sumsBeforeCells();
        firstToLast();
        firstRuleThatHolds();
        testsAtTheirEdge();
        serverAndStampOfTheWrite();
        noRuleLeavesTheCells();
        Check.finish("DoneEdgesTest");
    }

    private static String told(int value) {
        return value >= 0 ? "" + value : value == Check.LOWEST ? "(0-2147483647-1)" : "(0-" + -value + ")";
    }

    private static long cellAfter(String text, int cell) {
        return Stories.written(text).ask(x -> x.cell(0, cell, false));
    }

    /** 'ints that wrap' */
    private static void intsThatWrap() {
        for (int a : VALUES) {
            Check.due(told(a), cellAfter("c1:=" + told(a), 1), a);
            for (int b : VALUES) {
                Check.due(a + " + " + b, cellAfter("c1:=" + told(a) + "+" + told(b), 1), a + b);
                Check.due(a + " - " + b, cellAfter("c1:=" + told(a) + "-" + told(b), 1), a - b);
                Check.due(a + " * " + b, cellAfter("c1:=" + told(a) + "*" + told(b), 1), a * b);
            }
        }
    }

    /** 'SIGN one of = # < > (# not the same)', whatever the difference is */
    private static void comparesOfFarInts() {
        for (int a : VALUES) {
            for (int b : VALUES) {
                holds(told(a) + "=" + told(b), a == b);
                holds(told(a) + "#" + told(b), a != b);
                holds(told(a) + "<" + told(b), a < b);
                holds(told(a) + ">" + told(b), a > b);
            }
        }
    }

    private static void holds(String test, boolean want) {
        Story story = Stories.written("if " + test + " then c1:=1 else c1:=2");
        story.due(test, x -> x.cell(0, 1, false), want ? 1 : 2);
        story.due("outcome of " + test, x -> x.outcome(0, 0), want ? 1 : 2);
    }

    /** 'COMPARE { and COMPARE }': each one counts, from the first to the 39th, which 80 parts allow. */
    private static void andOfAll() {
        for (int n : new int[] {1, 2, 3, 39}) {
            String[] compares = new String[n];
            Arrays.fill(compares, "1=1");
            holds(String.join("and ", compares), true);
            for (int i = 0; i < n; i++) {
                compares[i] = "1=0";
                holds(String.join("and ", compares), false);
                compares[i] = "1=1";
            }
        }
    }

    /** 'all SUMS of its EFFECTS are found, then its cells become them' */
    private static void sumsBeforeCells() {
        Story story = Stories.written("c1:=1,c2:=2,c3:=3,c4:=4,c5:=5,c6:=6,c7:=7,c8:=8")
            .program("c1:=c8,c2:=c1,c3:=c2,c4:=c3,c5:=c4,c6:=c5,c7:=c6,c8:=c7").then(x -> x.write(0, 0, 0));
        for (int i = 1; i <= 8; i++) {
            int cell = i;
            story.due("c" + i + " after all went on by one", x -> x.cell(0, cell, false), i == 1 ? 8 : i - 1);
        }
    }

    /** 'from the first to the last' */
    private static void firstToLast() {
        Check.due("twice", cellAfter("c1:=1,c1:=2", 1), 2);
        Check.due("twice, the sums of before", cellAfter("c1:=c1+1,c1:=c1+2", 1), 2);
        Check.due("eight times", cellAfter("c1:=1,c1:=2,c1:=3,c1:=4,c1:=5,c1:=6,c1:=7,c1:=8", 1), 8);
        Check.due("with another between", cellAfter("c1:=5,c2:=6,c1:=4", 1), 4);
        Check.due("another between", cellAfter("c1:=5,c2:=6,c1:=4", 2), 6);
    }

    /** 'the first RULE without if (others may stand behind it), or whose TEST holds, is taken' */
    private static void firstRuleThatHolds() {
        rule("c1:=1 else c1:=2", 1);
        rule("if 1=1 then c1:=1 else c1:=2", 1);
        rule("if 1=0 then c1:=1 else c1:=2 else c1:=3", 2);
        rule("if 1=0 then c1:=1 else if 1=1 then c1:=2 else if 1=1 then c1:=3", 2);
        rule("if 1=0 then c1:=1 else if 1=0 then c1:=2", 0);
        rule("if 1=0 then c1:=1", 0);
        String five = "if 1=0 then c1:=9 else ".repeat(5);
        rule(five + "c1:=6", 6);
        rule(five + "if 1=1 then c1:=6", 6);
        rule(five + "if 1=0 then c1:=6", 0);
    }

    /** The rule's number is also what it makes of c1. */
    private static void rule(String text, int want) {
        Story story = new Story().program(text).then(x -> x.write(3, 0, 0));
        story.due("outcome of " + text, x -> x.outcome(3, 0), want);
        story.due("c1 after " + text, x -> x.cell(3, 1, false), want);
    }

    private static void testsAtTheirEdge() {
        Story story = new Story().program("if c1 < 3 then c1 := c1 + 1 else if c1 > 3 then c1 := 0 else c1 := 9")
            .times(6, x -> x.write(0, 0, 0));
        int[] outcomes = {1, 1, 1, 3, 2, 1};
        for (int i = 0; i < 6; i++) {
            int write = i;
            story.due("outcome of write " + i, x -> x.outcome(0, write), outcomes[i]);
        }
        story.due("c1 in the end", x -> x.cell(0, 1, false), 1);
    }

    /** 'server and stamp are the write's', not those of where and when it is done */
    private static void serverAndStampOfTheWrite() {
        for (int taker = 0; taker < 5; taker++) {
            int from = taker;
            Story story = new Story().program("c1 := server + 10, c2 := stamp").then(x -> x.write(from, 0, 1000000000));
            for (int i = 0; i < 5; i++) {
                int to = i;
                Story met = story.then(x -> x.meet(from, to, 1));
                met.due("server at " + to, x -> x.cell(to, 1, false), from + 10);
                met.due("stamp at " + to, x -> x.cell(to, 2, false), 1000000000);
            }
        }
        Story above = new Story().program("c1 := stamp * 2").times(2, x -> x.write(1, 0, 1000000000));
        above.due("twice a stamp above 1000000000", x -> x.cell(1, 1, false), 2000000002);
        Story wraps = new Story().program("c1 := stamp * 3").then(x -> x.write(1, 0, 1000000000));
        wraps.due("three times the stamp", x -> x.cell(1, 1, false), 3 * 1000000000);
    }

    private static void noRuleLeavesTheCells() {
        Story before = Stories.written("c1:=1,c31:=31").program("if c1=2 then c1:=5,c31:=5 else if c1#1 then c2:=5");
        Story after = before.then(x -> x.write(0, 0, 0));
        for (int i = 0; i < 32; i++) {
            int cell = i;
            after.due("c" + i, x -> x.cell(0, cell, false), before.ask(x -> x.cell(0, cell, false)));
        }
        after.due("its outcome", x -> x.outcome(0, 1), 0);
    }
}
