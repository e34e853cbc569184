/** The grammar, its faults, and how programs are done (promises 4, 11 and 13, and 'Terms'). */
public final class ProgramTest {
    private static final int GOOD = DriftStore.NONE;

    public static void main(String[] args) {
        tokens();
        faultsInTokens();
        missing();
        misplaced();
        mostRules();
        mostEffects();
        mostParts();
        brackets();
        sums();
        compares();
        effectsAtOnce();
        outcomes();
        deepestStack();
        longest();
        whatWasCutIsNotRead();
        eachProgramAnew();
        Check.finish("ProgramTest");
    }

    private static void fault(String text, int want) {
        DriftStore x = new DriftStore();
        Check.due("program '" + text + "'", Check.program(x, text), want);
        Check.due("a write after '" + text + "'", x.write(0, 0, 0), want == GOOD ? 0 : DriftStore.NONE);
    }

    /** What the sum is in a write with stamp 7 at server 3, where c2 is 5. */
    private static void sum(String text, int want) {
        DriftStore x = Check.storeWith("c2 := 5");
        x.write(3, 0, 0);
        Check.due("program of " + text, Check.program(x, "c1 := " + text), GOOD);
        x.write(3, 0, 7);
        Check.due(text, x.cell(3, 1, false), want);
    }

    private static void test(String text, boolean want) {
        DriftStore x = Check.storeWith("if " + text + " then c0 := 1 else c0 := 2");
        x.write(0, 0, 0);
        Check.due(text, x.cell(0, 0, false), want ? 1 : 2);
        Check.due("outcome of " + text, x.outcome(0, 0), want ? 1 : 2);
    }

    private static String times(String text, int n) {
        return text.repeat(n);
    }

    private static void tokens() {
        fault("c0:=0", GOOD);
        fault("c31:=0", GOOD);
        fault("  c  1  :=  1  ", GOOD);
        fault("c1:=1else c2:=2", GOOD);
        fault("if c1=1and 2>1then c1:=1", GOOD);
        fault("if 1<2 then c1:=server*stamp", GOOD);
        fault("c000031 := 00000000000000000001", GOOD);
        fault("c1:=2147483647", GOOD);
        fault("c1:=server", GOOD);
        fault("c1:=c1-(c2)", GOOD);
    }

    private static void faultsInTokens() {
        fault("cc := 1", 0);
        fault("x := 1", 0);
        fault("cz := 1", 0);
        fault("C1 := 1", 0);
        fault("ifc1 = 1 then c1 := 1", 0);
        fault("if 1 = 1 thenc1 := 1", 9);
        fault("c1 := serverstamp", 6);
        fault("c1 := serve", 6);
        fault("c1 := servers", 6);
        fault("c1 := 1 elsec1 := 1", 8);
        fault("c1x := 1", 2);
        fault("c1 : = 1", 3);
        fault("c1 :", 3);
        fault("c1 :: 1", 3);
        fault("c1 := 1;", 7);
        fault("c1 := 1 / 2", 8);
        fault("c1\t:= 1", 2);
        fault("c1 := 1\n", 7);
        fault("c1 := \u00e9", 6);
        fault("\u0000c1 := 1", 0);
        fault("c1 := 2147483648", 6);
        fault("c1 := 21474836470", 6);
        fault("c1 := 99999999999999999999999999", 6);
        fault("c1 := 1 + 18446744073709551617", 10);
        fault("c4294967297 := 1", 1);
        fault("c32 := 1", 1);
        fault("c1 := c32", 7);
        fault("c1 := c 99", 8);
        // What stands first counts, of whichever kind it is.
        fault("1 := $", 0);
        fault("$ := 1", 0);
        fault("c1 := 1 2 $", 8);
        fault("c1 := $ 2", 6);
    }

    private static void missing() {
        fault("", 0);
        fault(" ", 1);
        fault("     ", 5);
        fault("c", 1);
        fault("c  ", 3);
        fault("c1", 2);
        fault("c1 :=", 5);
        fault("c1 :=  ", 7);
        fault("c1 := c", 7);
        fault("c1 := 5,", 8);
        fault("c1 := 5 else", 12);
        fault("c1 := 5 else ", 13);
        fault("if", 2);
        fault("if 1", 4);
        fault("if 1 <", 6);
        fault("if 1 < 2", 8);
        fault("if 1 < 2 and", 12);
        fault("if 1 < 2 then", 13);
        fault("c1 := (1", 8);
        fault("c1 := (", 7);
        fault("c1 := 1 +", 9);
        fault("c1 := 1 *", 9);
    }

    private static void misplaced() {
        fault("then c1 := 1", 0);
        fault("else c1 := 1", 0);
        fault(":= 1", 0);
        fault("server := 1", 0);
        fault("1", 0);
        fault("c c1 := 1", 2);
        fault("c1 = 1", 3);
        fault("c1 c2 := 1", 3);
        fault("c1 := c2 := 1", 9);
        fault("c1 := 1 1", 8);
        fault("c1 := 1 = 1", 8);
        fault("c1 := 1 and", 8);
        fault("c1 := 1 then", 8);
        fault("c1 := 1 if", 8);
        fault("c1 := -1", 6);
        fault("c1 := +1", 6);
        fault("c1 := *", 6);
        fault("c1 := 1 + + 1", 10);
        fault("c1 := 1 - * 1", 10);
        fault("c1 := 1 * - 1", 10);
        fault("c1 := )", 6);
        fault("c1 := 1)", 7);
        fault("c1 := ()", 7);
        fault("c1 := (1))", 9);
        fault("c1 := (1, 2)", 8);
        fault("c1 := (1 = 1)", 9);
        fault("c1 := 1,, c2 := 1", 8);
        fault("c1 := 1, if 1 = 1 then c2 := 1", 9);
        fault("c1 := 1 else else", 13);
        fault("if c1 then c2 := 1", 6);
        fault("if c1 := 1 then c2 := 1", 6);
        fault("if 1 2 then c1 := 1", 5);
        fault("if 1 c2 = 2 then c1 := 1", 5);
        fault("if 1 = 1 c2 := 1", 9);
        fault("if 1 = 1 = 1 then c1 := 1", 9);
        fault("if 1 < > 2 then c1 := 1", 7);
        fault("if 1 = 1 and then c1 := 1", 13);
        fault("if (1 = 1) then c1 := 1", 6);
        fault("if if 1 = 1 then c1 := 1", 3);
        fault("if 1 = 1 then if 1 = 1 then c1 := 1", 14);
        fault("if 1 = 1 then then c1 := 1", 14);
        fault("if 1 = 1 , c1 := 1", 9);
        fault("if then c1 := 1", 3);
    }

    private static void mostRules() {
        String five = times("c1:=1 else ", 5);
        fault(five + "c1:=1", GOOD);
        fault(five + "c1:=1 else c1:=1", 66);
        fault(five + "c1:=1 else if 1=1 then c1:=1", 66);
        fault(five + "c1:=1 else", 65);
        fault(five + "c1:=1 else  ", 67);
        fault(five + "c1:=1 else  ,", 67);
        fault(five + "if 1=1 then c1:=1", GOOD);
    }

    private static void mostEffects() {
        String seven = times("c1:=1,", 7);
        fault(seven + "c1:=1", GOOD);
        fault(seven + "c1:=1,c9:=9", 48);
        fault(seven + "c1:=1, c9:=9", 49);
        fault(seven + "c1:=1,", 48);
        fault(seven + "c1:=1 , $", 50);
        fault(seven + "c1:=1 else " + seven + "c1:=1", GOOD);
        fault("if 1=1 then " + seven + "c1:=1,c1:=1", 60);
    }

    private static void mostParts() {
        String most = "c1:=1" + times("+1", 79);
        fault(most, GOOD);
        fault(most + "+1", 164);
        fault(most + "+ 1", 165);
        fault(most + "+", 164);
        fault(most + "+c1", 164);
        fault(most + "+c99", 164);
        fault(most + "+server", 164);
        fault(most + "+(1)", 165);
        fault(most + "+((1))", 166);
        fault(most + ",c2:=1", 168);
        fault(most + ",c99:=1", 165);
        fault(most + " else c1:=1", 173);
        fault(most + " else if 1=1 then c1:=1", 172);
        // A cell that gets a sum is no part of one, and neither is a bracket.
        fault("c1:=(1)" + times("*c1", 79), GOOD);
        fault("c1:=(1)" + times("*c1", 79) + "*stamp", 245);
        String tests = "if 1=1" + times("and 1=1", 38) + "then ";
        fault(tests + "c1:=1,c2:=2", GOOD);
        fault(tests + "c1:=1,c2:=2,c3:=3", tests.length() + 16);
    }

    private static void brackets() {
        fault("c1 := ((((((1))))))", GOOD);
        fault("c1 := (((((((1)))))))", 12);
        fault("c1 := ((((((1)+(1))))))", GOOD);
        fault("c1 := ((((((1))))))*((((((1))))))", GOOD);
        fault("c1 := (1)+(1)+(1)+(1)+(1)+(1)+(1)+(1)", GOOD);
        fault("c1 := ((((((1)))))+(((((((1)))))))", 24);
        fault("if ((((((1)))))) = (((((((1))))))) then c1 := 1", 25);
        fault("c1 := ((((((1)))))", 18);
        fault("c1 := (((((((", 12);
    }

    private static void sums() {
        sum("7", 7);
        sum("9", 9);
        sum("1234567890", 1234567890);
        sum("server", 3);
        sum("stamp", 7);
        sum("c2", 5);
        sum("c3", 0);
        sum("c1", 0);
        sum("1 - 2 - 3", -4);
        sum("1 - (2 - 3)", 2);
        sum("1 - 2 + 3", 2);
        sum("2 + 3 * 4", 14);
        sum("2 * 3 + 4", 10);
        sum("(2 + 3) * 4", 20);
        sum("2 * 3 * 4 - 5 * 6", -6);
        sum("10 - 2 * 3 - 1", 3);
        sum("2 * (3 - (4 - 6)) * c2", 50);
        sum("2147483647 + 1", Check.LOWEST);
        sum("0 - 2147483647 - 2", Check.HIGHEST);
        sum("65536 * 65536", 0);
        sum("65537 * 65537", 131073);
        sum("2147483647 * 2147483647", 1);
    }

    private static void compares() {
        test("1 = 1", true);
        test("1 = 2", false);
        test("1 # 1", false);
        test("1 # 2", true);
        test("1 < 2", true);
        test("2 < 2", false);
        test("3 < 2", false);
        test("2 > 1", true);
        test("2 > 2", false);
        test("1 > 2", false);
        test("0 - 1 < 0", true);
        test("2147483647 + 1 < 0", true);
        test("0 - 2147483647 - 1 > 2147483647", false);
        test("1 + 1 = 2 and 2 * 2 = 4 and 1 < 2", true);
        test("1 = 2 and 1 = 1", false);
        test("1 = 1 and 1 = 2", false);
        test("1 = 1 and 1 = 2 and 1 = 1", false);
        test("server = 0 and stamp = 1", true);
    }

    private static void effectsAtOnce() {
        DriftStore x = Check.storeWith("c1 := 1, c2 := 2");
        x.write(0, 0, 0);
        Check.program(x, "c1 := c2, c2 := c1");
        x.write(0, 0, 0);
        Check.due("c1 after a swap", x.cell(0, 1, false), 2);
        Check.due("c2 after a swap", x.cell(0, 2, false), 1);
        Check.program(x, "c3 := 1, c3 := c3 + 5, c3 := c3 + 7");
        x.write(0, 0, 0);
        Check.due("the last effect on a cell stays", x.cell(0, 3, false), 7);
        Check.program(x, "c0:=0,c5:=5,c10:=10,c15:=15,c20:=20,c25:=25,c30:=30,c31:=31");
        x.write(0, 0, 0);
        for (int c = 0; c <= 30; c += 5) {
            Check.due("one of eight effects", x.cell(0, c, false), c);
        }
        Check.due("the last of eight effects", x.cell(0, 31, false), 31);
    }

    private static void outcomes() {
        String six = "if c0=0 then c0:=10 else if c0=10 then c0:=20 else if c0=20 then c0:=30"
            + " else if c0=30 then c0:=40 else if c0=40 then c0:=50 else if c0=50 then c0:=60";
        DriftStore x = Check.storeWith(six);
        for (int i = 0; i < 7; i++) {
            x.write(0, 0, 0);
        }
        for (int i = 0; i < 6; i++) {
            Check.due("outcome of write " + i, x.outcome(0, i), i + 1);
        }
        Check.due("no rule holds", x.outcome(0, 6), 0);
        Check.due("no rule changes nothing", x.cell(0, 0, false), 60);
        DriftStore y = Check.storeWith("if c0 = 1 then c0 := 5 else c0 := 1 else c0 := 7");
        y.write(0, 0, 0);
        y.write(0, 0, 0);
        Check.due("a rule without if", y.outcome(0, 0), 2);
        Check.due("a rule whose test holds", y.outcome(0, 1), 1);
        Check.due("what is behind a rule without if is not done", y.cell(0, 0, false), 5);
    }

    private static void deepestStack() {
        String sum = "1";
        long value = 1;
        for (int i = 0; i < 7; i++) {
            sum = "1+2*" + (i == 0 ? sum : "(" + sum + ")");
            value = 1 + 2 * value;
        }
        DriftStore x = Check.storeWith("if " + sum + "=" + sum + " then c1:=" + sum + "+c1");
        x.write(0, 0, 0);
        Check.due("outcome of " + sum, x.outcome(0, 0), 1);
        Check.due(sum, x.cell(0, 1, false), value);
    }

    /** Bytes behind the cut, and those of earlier programs, are no part of the text. */
    private static void whatWasCutIsNotRead() {
        String text = "c12 := 345 else c3 := 4";
        int[] want = {0, 1, 2, 3, 4, 4, 6, 7, GOOD, GOOD, GOOD, GOOD, 11, 11, 11, 15};
        for (int n = 0; n < want.length; n++) {
            DriftStore x = new DriftStore();
            Check.feed(x, text);
            x.end(n);
            Check.due("the first " + n + " of " + text, x.program(), want[n]);
        }
        DriftStore x = new DriftStore();
        Check.feed(x, text);
        x.end(8);
        x.program();
        x.write(0, 0, 0);
        Check.due("a number that was cut", x.cell(0, 12, false), 3);
    }

    private static void eachProgramAnew() {
        DriftStore x = new DriftStore();
        for (int i = 0; i < 3; i++) {
            Check.due("80 parts again", Check.program(x, "c1:=1" + times("+1", 79)), GOOD);
            Check.due("a fault again", Check.program(x, "c1:=1 +"), 7);
            x.write(0, 0, 0);
            Check.due("80 parts done again", x.cell(0, 1, false), 80);
        }
    }

    private static void longest() {
        String most = "c1:=1" + times("+1", 79);
        fault(most + times(" ", 400 - most.length()), GOOD);
        fault(times(" ", 399) + "c", 400);
        fault(times(" ", 395) + "c1:=1", GOOD);
        fault(times("(", 400), 0);
        fault("c1:=" + times("9", 396), 4);
        fault("c1:=" + times("0", 395) + "9", GOOD);
        fault("c1:=" + times("a", 396), 4);
    }
}
