import java.util.List;

/** The edges of promise 4 and of what 'Terms' says of a PROGRAM, from its tokens to THE FAULT. */
public final class ProgramEdgesTest {
    private static final int GOOD = DriftStore.NONE;

    public static void main(String[] args) {
        emptyTape();
        theOneBeforeStays();
        untilTheNextOne();
        onlyBlanksAreBlanks();
        blanksWhereOneLikes();
        noBlanksInsideTokens();
        tokensAsLongAsCanBe();
        wordsThatAreNone();
        eachByteBehindAWord();
        eachByteBeforeAWord();
        eachByteBeforeANumber();
        numbersAtMost();
        numbersThatAreNone();
        cellsLeftOfBecomes();
        cellsInSums();
        cellsWithoutNumber();
        bracketsAtMostSixDeep();
        bracketsInEachPlace();
        valuesThatWaitInBrackets();
        rulesAtMostSix();
        effectsAtMostEight();
        partsAtMostEighty();
        partsOfEachKind();
        partsOfAllRules();
        bracketsAreNoParts();
        cellsThatBecomeAreNoParts();
        allLimitsAtOnce();
        eachTokenInEachPlace();
        missingAtEachPlace();
        whatWasCutIsMissing();
        firstFaultCounts();
        longestTape();
        Check.finish("ProgramEdgesTest");
    }

    /** What program answers, on a new object and behind another program, which stays at a fault. */
    private static void fault(String text, int want) {
        Story first = new Story().fed(text);
        first.due("program '" + text + "'", x -> x.program(), want);
        first.then(x -> x.program()).due("write of '" + text + "'", x -> x.write(0, 0, 0), want == GOOD ? 0 : GOOD);
        Story second = new Story().program("c30 := 30, c29 := c29 + 1").fed(text);
        second.due("second program '" + text + "'", x -> x.program(), want);
        if (want != GOOD) {
            Story both = second.then(x -> x.program(), x -> x.write(0, 0, 0), x -> x.write(0, 0, 0));
            both.due("the one before '" + text + "'", x -> x.cell(0, 30, false), 30);
            both.due("the one before, twice", x -> x.cell(0, 29, false), 2);
        }
    }

    /** What c1 is after a write of c1 := text. */
    private static void makes(String text, int want) {
        Stories.written("c1 := " + text).due(text, x -> x.cell(0, 1, false), want);
    }

    private static String ones(int parts) {
        return "1" + "+1".repeat(parts - 1);
    }

    /** '0 of an empty TAPE' */
    private static void emptyTape() {
        fault("", 0);
        fault(" ", 1);
        Stories.busy().then(x -> x.end(0)).refuses("an empty tape", x -> x.program(), 0);
    }

    /** 'the one before stays', and so does all else, but for the tape */
    private static void theOneBeforeStays() {
        String[] faulty = {"$", "c1", "c1 := 5,", "c1 := 5 else", "c1 := 5 5", "if 1 = 1 then c1 := 5, c2 := c32"};
        Story before = new Story().program("c1 := 7, c2 := c2 + 1").then(x -> x.write(2, 0, 0), x -> x.write(0, 0, 0));
        for (String text : faulty) {
            before.sameAs("'" + text + "'", before.fed(text).then(x -> x.program()));
        }
    }

    /** 'which is the one that write takes, until the next one' */
    private static void untilTheNextOne() {
        Story story = new Story().program("c1 := 7").program("c2 := 8").then(x -> x.write(0, 0, 0));
        story.due("the one before", x -> x.cell(0, 1, false), 0);
        story.due("the next one", x -> x.cell(0, 2, false), 8);
        Story third = story.program("c2 := c2 + 1").then(x -> x.write(0, 0, 0), x -> x.write(0, 0, 0));
        third.due("a write keeps the one it was taken with", x -> x.cell(0, 2, false), 10);
        third.due("three writes", x -> x.writes(), 3);
    }

    /** 'with blanks (32) between' */
    private static void onlyBlanksAreBlanks() {
        for (int b : new int[] {0, 8, 9, 10, 11, 12, 13, 28, 31, 33, 127, 128, 133, 160, 255}) {
            fault("c1" + (char) b + ":= 1", 2);
            fault((char) b + "c1 := 1", 0);
            fault("c1 := 1" + (char) b, 7);
            fault("c1 := 1 " + (char) b + " else", 8);
        }
    }

    private static void blanksWhereOneLikes() {
        String[] tokens = {"if", "(", "c", "1", "+", "2", ")", "*", "server", "=", "stamp", "and", "3", "#", "4",
            "then", "c", "5", ":=", "6", "-", "7", ",", "c", "8", ":=", "9", "else", "c", "10", ":=", "11"};
        fault(String.join(" ", tokens), GOOD);
        fault(String.join("   ", tokens), GOOD);
        fault("  " + String.join(" ", tokens) + "   ", GOOD);
        fault("if(c1+2)*server=stamp and 3#4then c5:=6-7,c8:=9else c10:=11", GOOD);
        fault("if c1<2then c1:=c2else c3:=4", GOOD);
        fault("if c1>2and 1=1then c1:=c2else c3:=4", GOOD);
    }

    private static void noBlanksInsideTokens() {
        fault("c1 : = 1", 3);
        fault("i f 1 = 1 then c1 := 1", 0);
        fault("if 1 = 1 th en c1 := 1", 9);
        fault("if 1 = 1 a nd 1 = 1 then c1 := 1", 9);
        fault("c1 := ser ver", 6);
        fault("c1 := st amp", 6);
        fault("c1 := 1 el se c1 := 1", 8);
        fault("c1 := 1 2", 8);
        fault("c 1 2 := 1", 4);
    }

    /** 'TOKENS, each as long as can be' */
    private static void tokensAsLongAsCanBe() {
        makes("12345", 12345);
        makes("c30*10+31", 31);
        fault("c1:==1", 4);
        fault("c1:=:=1", 4);
        fault("c1:=1--1", 6);
        fault("if 1<=1 then c1:=1", 5);
        fault("if 1<>1 then c1:=1", 5);
        fault("if 1##1 then c1:=1", 5);
        fault("c1:=1**1", 6);
        fault("c3 1 := 1", 3);
        fault("c311 := 1", 1);
        fault("ifc1=1 then c1:=1", 0);
        fault("if 1=1 andc1=1 then c1:=1", 7);
        fault("if 1=1 thenc1:=1", 7);
        fault("c1:=1 elsec1:=1", 6);
        fault("c1:=serverc1", 4);
        fault("c1:=cc1", 4);
        fault("c1:=1else c1:=1", GOOD);
        fault("c1:=1c", 5);
    }

    /** 'also of a word ... that is none' */
    private static void wordsThatAreNone() {
        for (String word : new String[] {"s", "serve", "servers", "sever", "sta", "stam", "stamps", "stampc",
            "serverstamp", "a", "z", "cc", "az", "za", "cz", "iff", "elsed", "servera", "serverz"}) {
            fault("c1 := " + word, 6);
            fault("c1 := 1 + " + word + " + 1", 10);
            fault(word, 0);
        }
        fault("i 1 = 1 then c1 := 1", 0);
        fault("iff 1 = 1 then c1 := 1", 0);
        fault("if 1 = 1 the c1 := 1", 9);
        fault("if 1 = 1 thens c1 := 1", 9);
        fault("if 1 = 1 an 1 = 1 then c1 := 1", 9);
        fault("if 1 = 1 ands 1 = 1 then c1 := 1", 9);
        fault("c1 := 1 els c1 := 1", 8);
        fault("c1 := 1 elses c1 := 1", 8);
        fault("C1 := 1", 0);
        fault("If 1 = 1 then c1 := 1", 0);
        fault("c1 := Server", 6);
        fault("c1 := STAMP", 6);
    }

    private static boolean isLetter(int b) {
        return b >= 'a' && b <= 'z';
    }

    private static boolean isDigit(int b) {
        return b >= '0' && b <= '9';
    }

    private static void eachByteBehindAWord() {
        for (int b = 0; b < 256; b++) {
            boolean joins = b == '+' || b == '-' || b == '*' || b == ',';
            fault("c1:=server" + (char) b, b == ' ' ? GOOD : isLetter(b) ? 4 : joins ? 11 : 10);
        }
    }

    private static void eachByteBeforeAWord() {
        for (int b = 0; b < 256; b++) {
            fault("c1:=" + (char) b + "stamp", b == ' ' ? GOOD : isDigit(b) ? 5 : b == '(' ? 10 : 4);
        }
    }

    private static void eachByteBeforeANumber() {
        for (int b = 0; b < 256; b++) {
            boolean good = b == ' ' || isDigit(b) || b == 'c';
            fault("c1:=" + (char) b + "1", good ? GOOD : b == '(' ? 6 : 4);
        }
    }

    /** 'NUMBERS (digits, at most 2^31 - 1)' */
    private static void numbersAtMost() {
        makes("0", 0);
        makes("1", 1);
        makes("9", 9);
        makes("10", 10);
        makes("999999999", 999999999);
        makes("2147483639", 2147483639);
        makes("2147483640", 2147483640);
        makes("2147483646", 2147483646);
        makes("2147483647", 2147483647);
        makes("0002147483647", 2147483647);
        makes("0".repeat(300) + "7", 7);
        for (String sign : new String[] {"=", "<", ">", "#"}) {
            fault("if 2147483647 " + sign + " 2147483647 then c1 := 1", GOOD);
        }
    }

    /** 'also of a ... number that is none' */
    private static void numbersThatAreNone() {
        for (String number : new String[] {"2147483648", "2147483649", "2147483650", "2147483657", "2200000000",
            "3000000000", "4294967295", "4294967296", "4294967297", "9999999999", "21474836470",
            "9223372036854775807", "9223372036854775808", "18446744073709551616", "18446744073709551617",
            "0002147483648", "9".repeat(50), "1" + "0".repeat(60), "42949672960000000001"}) {
            fault("c1 := " + number, 6);
            fault("c1 := 1 - " + number + ", c2 := 1", 10);
            fault("if " + number + " = 1 then c1 := 1", 3);
            fault("if 1 = " + number + " then c1 := 1", 7);
            fault("c" + number + " := 1", 1);
            fault("c1 := c " + number, 8);
            fault(number, 0);
        }
    }

    /** 'CELL: c NUMBER, 0 to 31'; the fault 'for one that is ... out of range its own' */
    private static void cellsLeftOfBecomes() {
        for (int cell = 0; cell < 32; cell++) {
            int c = cell;
            Story story = Stories.written("c" + c + ":=" + (c + 100));
            for (int other = 0; other < 32; other++) {
                int o = other;
                story.due("c" + o + " after c" + c, x -> x.cell(0, o, false), o == c ? c + 100 : 0);
            }
        }
        for (int cell : new int[] {32, 33, 39, 63, 64, 100, 256, 310, 1 << 16, Check.HIGHEST}) {
            fault("c" + cell + " := 1", 1);
            fault("c  " + cell + " := 1", 3);
            fault("c1 := 1, c" + cell + " := 1", 10);
            fault("if 1 = 1 then c" + cell + " := 1", 15);
        }
        fault("c031 := 1", GOOD);
        fault("c00000000000000031 := 1", GOOD);
        fault("c032 := 1", 1);
    }

    private static void cellsInSums() {
        for (int cell = 0; cell < 32; cell++) {
            int c = cell;
            int to = (c + 1) % 32;
            Story story = Stories.written("c" + c + ":=9").program("c" + to + ":=c" + c + "+1")
                .then(x -> x.write(0, 0, 0));
            story.due("c" + c + " + 1", x -> x.cell(0, to, false), 10);
        }
        for (int cell : new int[] {32, 33, 63, 64, 100, 256, 1 << 16, Check.HIGHEST}) {
            fault("c1 := c" + cell, 7);
            fault("c1 := 1 + (c  " + cell + ")", 14);
            fault("if c" + cell + " = 1 then c1 := 1", 4);
            fault("if 1 = c" + cell + " then c1 := 1", 8);
        }
    }

    private static void cellsWithoutNumber() {
        fault("c", 1);
        fault("c ", 2);
        fault("c := 1", 2);
        fault("c-1 := 1", 1);
        fault("c(1) := 1", 1);
        fault("c1 := c", 7);
        fault("c1 := c + 1", 8);
        fault("c1 := c-1", 7);
        fault("c1 := c c1", 8);
        fault("c1 := c server", 8);
    }

    /** 'brackets at most 6 deep'; the fault 'for one that is too much ... its own' */
    private static void bracketsAtMostSixDeep() {
        for (int deep = 0; deep <= 9; deep++) {
            String sum = "(".repeat(deep) + "7" + ")".repeat(deep);
            fault("c1 := " + sum, deep <= 6 ? GOOD : 12);
            fault("c1 := " + "(".repeat(deep), deep <= 6 ? 6 + deep : 12);
            if (deep <= 6) {
                makes(sum, 7);
                makes("2*" + sum + "*" + sum + "+1", 99);
            }
        }
    }

    private static void bracketsInEachPlace() {
        String six = "((((((1))))))";
        String seven = "(((((((1)))))))";
        fault("if " + six + "=" + six + " and " + six + "#" + six + " then c1:=" + six + ",c2:=" + six, GOOD);
        fault("if " + seven + "=1 then c1:=1", 9);
        fault("if 1=" + seven + " then c1:=1", 11);
        fault("if 1=1 and 1<" + seven + " then c1:=1", 19);
        fault("c1:=1,c2:=" + seven, 16);
        fault("c1:=1 else c2:=" + seven, 21);
        fault("c1:=1*" + seven, 12);
        fault("c1:=((((((1)+(1))))))", GOOD);
        fault("c1:=((((((1+(1)))))))", 12);
        fault("c1:=((((((1)*(1)-(1)))+((1)))))", GOOD);
        fault("c1:=(((((((", 10);
        fault("c1:=" + "(1)+".repeat(50) + "1", GOOD);
        fault("c1:=((((((1)))))", 16);
        fault("c1:=((((((1)))))))", 17);
    }

    /** In each bracket a sum and a product wait for what is inside, on both sides of a compare. */
    private static void valuesThatWaitInBrackets() {
        String sum = "1+2*1";
        int value = 3;
        for (int deep = 1; deep <= 6; deep++) {
            sum = "1+2*(" + sum + ")";
            value = 1 + 2 * value;
            makes(sum, value);
            Story story = Stories.written("if " + sum + "=" + sum + " then c1:=" + sum + "*1,c2:=" + sum);
            story.due("the same on both sides, " + deep + " deep", x -> x.outcome(0, 0), 1);
            story.due("the second effect, " + deep + " deep", x -> x.cell(0, 2, false), value);
        }
    }

    /** 'at most 6 RULES' */
    private static void rulesAtMostSix() {
        String rules = "c1:=1";
        String tested = "if c1=0 then c1:=1";
        for (int n = 1; n <= 8; n++) {
            fault(rules, n <= 6 ? GOOD : 66);
            fault(tested, n <= 6 ? GOOD : 144);
            rules += " else c1:=" + (n + 1);
            tested += " else if c1=" + n + " then c1:=" + (n + 1);
        }
        String six = "c1:=1" + " else c1:=1".repeat(5);
        fault(six + " else", 65);
        fault(six + " else ", 66);
        fault(six + " else $", 66);
        fault(six + " else then", 66);
        outcomeOfEachRule();
    }

    /** 'the number of that RULE, from 1; 0 if there is none' */
    private static void outcomeOfEachRule() {
        Story story = new Story().program("if c1=0 then c1:=1 else if c1=1 then c1:=2 else if c1=2 then c1:=3"
            + " else if c1=3 then c1:=4 else if c1=4 then c1:=5 else if c1=5 then c1:=6")
            .times(8, x -> x.write(0, 0, 0));
        for (int i = 0; i < 8; i++) {
            int write = i;
            story.due("outcome of write " + i, x -> x.outcome(0, write), i < 6 ? i + 1 : 0);
        }
        story.due("none changes nothing", x -> x.cell(0, 1, false), 6);
        Story first = Stories.written("c1:=5 else c1:=6 else if 1=1 then c1:=7");
        first.due("others may stand behind a rule without if", x -> x.outcome(0, 0), 1);
        first.due("which is taken", x -> x.cell(0, 1, false), 5);
    }

    /** '8 EFFECTS each' */
    private static void effectsAtMostEight() {
        for (int n = 1; n <= 10; n++) {
            String effects = "c1:=1" + ",c1:=1".repeat(n - 1);
            fault(effects, n <= 8 ? GOOD : 48);
            fault("if 1=1 then " + effects, n <= 8 ? GOOD : 60);
            fault("c1:=1,c2:=2 else " + effects, n <= 8 ? GOOD : 65);
            fault(effects + " else c1:=1", n <= 8 ? GOOD : 48);
        }
        String eight = "c1:=1" + ",c1:=1".repeat(7);
        fault(eight + ",", 48);
        fault(eight + ", ", 49);
        fault(eight + ",$", 48);
        fault(eight + ",c99:=1", 48);
        fault(eight + " else " + eight + " else " + eight, GOOD);
        fault(eight + " else " + eight + ",c1:=1", 101);
        Story story = Stories.written("c0:=1,c1:=2,c2:=3,c3:=4,c4:=5,c5:=6,c6:=7,c31:=8");
        for (int i = 0; i < 7; i++) {
            int cell = i;
            story.due("effect " + i, x -> x.cell(0, cell, false), i + 1);
        }
        story.due("effect 8", x -> x.cell(0, 31, false), 8);
    }

    /** '80 PARTS that are no brackets' */
    private static void partsAtMostEighty() {
        for (int n = 78; n <= 83; n++) {
            fault("c1:=" + ones(n), n <= 80 ? GOOD : 164);
            fault("c1:=" + ones(n).replace('+', '*'), n <= 80 ? GOOD : 164);
            fault("c1:=" + ones(n).replace('+', '-'), n <= 80 ? GOOD : 164);
        }
        makes(ones(79), 79);
        makes(ones(80), 80);
        String eighty = "c1:=" + ones(80);
        fault(eighty + "+", 164);
        fault(eighty + "+ ", 165);
        fault(eighty + " 1", 164);
        fault(eighty + ",", 164);
        fault(eighty + ",c2:=1", 168);
    }

    private static void partsOfEachKind() {
        for (String part : new String[] {"1", "c1", "server", "stamp", "2147483647", "c 31"}) {
            fault("c1:=" + ones(78) + "+" + part, GOOD);
            fault("c1:=" + ones(79) + "+" + part, GOOD);
            fault("c1:=" + ones(80) + "+" + part, 164);
            fault("c1:=" + part + "+" + ones(79), GOOD);
            fault("c1:=" + part + "+" + ones(80), 164 + part.length() - 1);
            fault("c1:=" + ones(79) + "*(" + part + ")", GOOD);
            fault("c1:=" + ones(80) + "*(" + part + ")", 165);
        }
    }

    private static void partsOfAllRules() {
        String begin = "if " + ones(10) + "<" + ones(10) + " and " + ones(5) + "=" + ones(5) + " then c1:=" + ones(10)
            + ",c2:=" + ones(10) + " else c3:=";
        for (int n = 27; n <= 32; n++) {
            String text = begin + ones(n);
            fault(text, n <= 30 ? GOOD : begin.length() + 60);
        }
        // The 81st may be the first one of a test's side, or of another rule.
        fault("if " + ones(40) + "=" + ones(40) + " then c1:=1", 172);
        fault("if " + ones(80) + "=1 then c1:=1", 163);
        fault("c1:=" + ones(80) + " else c1:=1", 173);
        fault("if " + ones(40) + "=" + ones(39) + " then c1:=1", GOOD);
        fault("if " + ones(79) + "=1 then c1:=1", 172);
    }

    private static void bracketsAreNoParts() {
        fault("c1:=(1)" + "+(1)".repeat(78), GOOD);
        fault("c1:=(1)" + "+(1)".repeat(79), GOOD);
        fault("c1:=(1)" + "+(1)".repeat(80), 325);
        makes("(1)" + "+(1)".repeat(79), 80);
        fault("c1:=((((((" + ones(80) + "))))))", GOOD);
        fault("c1:=((((((" + ones(81) + "))))))", 170);
    }

    private static void cellsThatBecomeAreNoParts() {
        String seven = "c1:=1,".repeat(7);
        fault(seven + "c1:=" + ones(73), GOOD);
        fault(seven + "c1:=" + ones(74), 192);
        fault(seven + "c1:=" + ones(72) + " else c1:=1", GOOD);
        fault(seven + "c1:=" + ones(73) + " else c1:=1", 201);
    }

    /** Six rules of eight effects each, with 80 parts, in 400 bytes. */
    private static void allLimitsAtOnce() {
        String eight = "c1:=1,c2:=2,c3:=3,c4:=4,c5:=5,c6:=6,c7:=7,c8:=1";
        String five = (eight + "else ").repeat(5);
        String most = five + eight + "+1".repeat(32);
        fault(most + " ".repeat(400 - most.length()), GOOD);
        fault(most + "+1", most.length() + 1);
        fault(most + ",c9:=9", most.length() + 1);
        fault(most + "else c9:=9", most.length() + 5);
        Story story = Stories.written(most);
        story.due("its outcome", x -> x.outcome(0, 0), 1);
        story.due("its last effect", x -> x.cell(0, 8, false), 1);
    }

    /** 'the first token that can not stand there': all tokens behind each beginning that the grammar knows. */
    private static void eachTokenInEachPlace() {
        String parts = "1 server stamp";
        stands("", "", "if c");
        stands("c", "", "1");
        stands("c1", "", ":=");
        stands("c1 :=", parts, "c (");
        stands("c1 := c", "1", "");
        stands("c1 := 1", "", "+ - * , else");
        stands("c1 := c1", "", "+ - * , else");
        stands("c1 := server", "", "+ - * , else");
        stands("c1 := (", "", parts + " c (");
        stands("c1 := (stamp", ")", "+ - *");
        stands("c1 := (1)", "", "+ - * , else");
        stands("c1 := 1 +", parts, "c (");
        stands("c1 := 1 -", parts, "c (");
        stands("c1 := 1 *", parts, "c (");
        stands("c1 := 1,", "", "c");
        stands("c1 := 1 else", "", "if c");
        stands("if", "", parts + " c (");
        stands("if 1", "", "+ - * = # < >");
        stands("if (1", "", "+ - * )");
        stands("if (1)", "", "+ - * = # < >");
        stands("if 1 =", "", parts + " c (");
        stands("if 1 # 1", "", "+ - * and then");
        stands("if 1 < 1 and", "", parts + " c (");
        stands("if 1 > 1 then", "", "c");
        stands("if 1 = 1 then c1 := 1", "", "+ - * , else");
    }

    /** Some tokens make it good, behind others something is missing, and no other one can stand there. */
    private static void stands(String text, String good, String missing) {
        for (String token : "if then else and server stamp c 1 = # < > + - * := , ( ) $ x 2147483648".split(" ")) {
            String longer = text + " " + token;
            boolean isGood = List.of(good.split(" ")).contains(token);
            boolean isMissing = List.of(missing.split(" ")).contains(token);
            fault(longer, isGood ? GOOD : isMissing ? longer.length() : text.length() + 1);
        }
    }

    /** 'or the length if something is missing': each beginning of a text. */
    private static void missingAtEachPlace() {
        beginnings("c1 := server * stamp - c2 , c3 := 4 else c5 := 6",
            new int[] {12, 13, 20, 21, 25, 26, 35, 36, 48},
            new int[][] {{3, 5}, {6, 12}, {15, 20}, {31, 33}, {36, 40}, {44, 46}});
        beginnings("if (c1 + 2) * 33 = stamp and 4 # c5 then c6 := ((7)) else if 8 < 9 then c10 := 11",
            new int[] {52, 53, 80, 81},
            new int[][] {{0, 2}, {19, 24}, {25, 28}, {36, 40}, {44, 46}, {53, 57}, {58, 60}, {67, 71}, {76, 78}});
        beginnings("  c  1  :=  ( 2 )  ", new int[] {17, 18, 19}, new int[][] {{8, 10}});
    }

    /** Of the first n bytes: good at the good ends; at the beginning of a token that was cut; else n. */
    private static void beginnings(String text, int[] good, int[][] tokens) {
        for (int n = 0; n <= text.length(); n++) {
            int want = n;
            for (int end : good) {
                want = n == end ? GOOD : want;
            }
            for (int[] token : tokens) {
                want = n > token[0] && n < token[1] ? token[0] : want;
            }
            fault(text.substring(0, n), want);
        }
    }

    /** What the tape had before it was cut, and what an earlier program left, is not read. */
    private static void whatWasCutIsMissing() {
        String text = "c1 := server * stamp - c2 , c3 := 44 else c5 := 6";
        for (int i = 0; i <= text.length(); i++) {
            int n = i;
            long want = new Story().fed(text.substring(0, n)).ask(x -> x.program());
            new Story().fed(text).then(x -> x.end(n)).due("cut to " + n, x -> x.program(), want);
            Story again = new Story().program(text).fed(text.substring(0, n));
            again.due("again, the first " + n, x -> x.program(), want);
        }
    }

    /** 'the first token that can not stand there ..., or of the first byte that begins none' */
    private static void firstFaultCounts() {
        fault("1 $ c32", 0);
        fault("c32 := $", 1);
        fault("$ c32", 0);
        fault("c1 := c32 $", 7);
        fault("c1 := 1 1 $", 8);
        fault("c1 := $ 1 1", 6);
        fault("c1 := 2147483648 + c32", 6);
        fault("c1 := c32 + 2147483648", 7);
        fault("c1 := xyz + c32", 6);
        fault("c1 := (1 + c32", 12);
        fault("c1 := (1, c2 := $", 8);
        fault("if c1 then c2 := $", 6);
        fault("c1 := 1 else else else", 13);
    }

    private static void longestTape() {
        fault("c1:=1" + " ".repeat(395), GOOD);
        fault(" ".repeat(395) + "c1:=1", GOOD);
        fault(" ".repeat(394) + "c1:=1 ", GOOD);
        fault(" ".repeat(396) + "c1:=", 400);
        fault(" ".repeat(395) + "c1:= ", 400);
        fault(" ".repeat(394) + "c1:=1,", 400);
        fault(" ".repeat(394) + "c1:=1$", 399);
        fault(" ".repeat(394) + "c1:=1(", 399);
        fault(" ".repeat(399) + "c", 400);
        fault(" ".repeat(399) + "s", 399);
        fault(" ".repeat(397) + "c1:", 399);
        fault(" ".repeat(394) + "server", 394);
        fault("c1:=" + " ".repeat(390) + "server", GOOD);
        fault("c1:=" + " ".repeat(395) + "7", GOOD);
        fault("c1:=" + " ".repeat(394) + "c7", GOOD);
        fault("c1:=" + " ".repeat(395) + "c", 400);
        fault(" ".repeat(400), 400);
        fault("c1:=" + "0".repeat(395) + "1", GOOD);
        fault("c1:=" + "1".repeat(396), 4);
        fault("c1:=" + "a".repeat(396), 4);
        fault("c1:=" + "(".repeat(396), 10);
        fault("c1:=1" + ")".repeat(395), 5);
        fault("c".repeat(400), 0);
        fault("1".repeat(400), 0);
        fault(",".repeat(400), 0);
    }
}
