/**
 * The edges of promises 2 and 3, and of 'THE TAPE has bytes, none at first, at most 400; calls that
 * read it empty it'.
 */
public final class TapeEdgesTest {
    private static final int REFUSED = DriftStore.REFUSED;
    private static final int NONE = DriftStore.NONE;
    private static final int FULL = DriftStore.FULL;
    private static final String ONES = "c1:=1+1+1+1+1+1+1+1 ";
    private static final String NINES = "99999999999999999999";

    public static void main(String[] args) {
        noneAtFirst();
        fullAbove400();
        fullAgainAndAgain();
        fullKeepsItsBytes();
        highestByteFirst();
        eachByteIsItself();
        eachByteInItsPlace();
        cutToItsLengthAtMost();
        notCutBelowZero();
        cutKeepsTheFirstBytes();
        cutMakesRoom();
        readingEmptiesIt();
        otherCallsLeaveIt();
        Check.finish("TapeEdgesTest");
    }

    private static Story tapeOf(int length) {
        return new Story().fed(" ".repeat(length));
    }

    private static long feedBlanks(DriftStore x) {
        return Check.feedTwenty(x, " ".repeat(20), 0);
    }

    /** 'bytes, none at first' */
    private static void noneAtFirst() {
        Story story = new Story();
        Check.due("a new tape's length", story.tapeLength(), 0);
        story.due("all of a new tape", x -> x.end(0), 0);
        story.refuses("one byte of a new tape", x -> x.end(1), REFUSED);
        story.due("the first feed", TapeEdgesTest::feedBlanks, 20);
        story.due("a new tape read", x -> x.program(), 0);
    }

    /** 'how many it has; FULL if it would have more than 400' */
    private static void fullAbove400() {
        for (int length : new int[] {0, 1, 19, 20, 21, 200, 360, 379, 380}) {
            Story story = tapeOf(length);
            story.due("feed to " + length, TapeEdgesTest::feedBlanks, length + 20);
            Check.due("then there are", story.then(TapeEdgesTest::feedBlanks).tapeLength(), length + 20);
        }
        for (int length : new int[] {381, 382, 399, 400}) {
            tapeOf(length).refuses("feed to " + length, TapeEdgesTest::feedBlanks, FULL);
        }
    }

    private static void fullAgainAndAgain() {
        Story story = new Story();
        for (int i = 1; i <= 20; i++) {
            story.due("feed " + i, TapeEdgesTest::feedBlanks, 20 * i);
            story = story.then(TapeEdgesTest::feedBlanks);
        }
        story.refuses("feed 21", TapeEdgesTest::feedBlanks, FULL);
        story.then(TapeEdgesTest::feedBlanks).refuses("feed 22", TapeEdgesTest::feedBlanks, FULL);
    }

    private static void fullKeepsItsBytes() {
        for (int length : new int[] {381, 390, 400}) {
            Story story = new Story().fed("c1:=1" + " ".repeat(length - 7) + "+2");
            story.refuses("nines to " + length, x -> Check.feedTwenty(x, NINES, 0), FULL);
            Story read = story.then(x -> Check.feedTwenty(x, NINES, 0), x -> x.program(), x -> x.write(0, 0, 0));
            read.due("what was there is read", x -> x.cell(0, 1, false), 3);
        }
    }

    /** 'Twenty bytes, five times four, the highest of each first' */
    private static void highestByteFirst() {
        Story story = new Story()
            .then(x -> x.feed(0x63313a3d, 0x31323334, 0x35363738, 0x2b322a63, 0x32202020), x -> x.program());
        story.then(x -> x.write(0, 0, 0)).due("c1:=12345678+2*c2", x -> x.cell(0, 1, false), 12345678);
        for (int at = 0; at < 20; at++) {
            otherByteAt(at, '$');
        }
    }

    /** A byte with the highest bit is not the one without it, and spoils none beside it. */
    private static void eachByteInItsPlace() {
        for (int at = 0; at < 20; at++) {
            otherByteAt(at, (char) (ONES.charAt(at) | 128));
        }
    }

    private static void otherByteAt(int at, char other) {
        String text = ONES.substring(0, at) + other + ONES.substring(at + 1);
        // In place 3 it parts := and the colon alone begins no token.
        int want = at == 3 ? 2 : at;
        Story story = new Story().then(x -> Check.feedTwenty(x, text, 0));
        story.due("byte " + other + " in " + text, x -> x.program(), want);
    }

    private static void eachByteIsItself() {
        for (int b = 0; b < 256; b++) {
            int behind = behindOne(b);
            new Story().fed("c1:=1" + (char) b).due("c1:=1 and byte " + b, x -> x.program(), behind);
            new Story().fed((char) b + "c1:=1").due("byte " + b + " and c1:=1", x -> x.program(), b == 32 ? NONE : 0);
        }
    }

    /** What is read of a byte behind c1:=1, which is five bytes. */
    private static int behindOne(int b) {
        if (b == ' ' || b >= '0' && b <= '9') {
            return NONE;
        }
        return b == '+' || b == '-' || b == '*' || b == ',' ? 6 : 5;
    }

    /** 'cut to its first n bytes: n; REFUSED if it has less' */
    private static void cutToItsLengthAtMost() {
        for (int length : new int[] {0, 1, 19, 20, 21, 380, 399, 400}) {
            Story story = tapeOf(length);
            story.due("all of " + length, x -> x.end(length), length);
            story.changesNothing("all of " + length, x -> x.end(length));
            story.refuses("one more than " + length, x -> x.end(length + 1), REFUSED);
            story.refuses("far more than " + length, x -> x.end(Check.HIGHEST), REFUSED);
            if (length > 0) {
                story.due("one less than " + length, x -> x.end(length - 1), length - 1);
                Story cut = story.then(x -> x.end(length - 1));
                Check.due("then there are", cut.tapeLength(), length - 1);
                cut.refuses("what was cut of " + length, x -> x.end(length), REFUSED);
            }
        }
        tapeOf(400).refuses("more than can be", x -> x.end(401), REFUSED);
    }

    /** 'or n is below 0' */
    private static void notCutBelowZero() {
        for (int length : new int[] {0, 1, 20, 400}) {
            Story story = tapeOf(length);
            story.due("cut to none", x -> x.end(0), 0);
            Check.due("then there are", story.then(x -> x.end(0)).tapeLength(), 0);
            story.then(x -> x.end(0)).due("none read", x -> x.program(), 0);
            for (int n : new int[] {-1, -2, -20, -400, Check.LOWEST}) {
                story.refuses("cut to " + n, x -> x.end(n), REFUSED);
            }
        }
    }

    private static void cutKeepsTheFirstBytes() {
        int value = 0;
        for (int i = 1; i <= 9; i++) {
            int n = 4 + i;
            value = value * 10 + i;
            Story cut = new Story().fed("c1:=123456789").then(x -> x.end(n));
            cut.then(x -> x.program(), x -> x.write(0, 0, 0)).due("first " + n, x -> x.cell(0, 1, false), value);
        }
    }

    private static void cutMakesRoom() {
        Story story = new Story().fed("c1:=1+" + "9".repeat(394)).then(x -> x.end(6));
        story.due("feed behind the cut", x -> Check.feedTwenty(x, "2 + c2              ", 0), 26);
        Story read = story.then(x -> Check.feedTwenty(x, "2 + c2              ", 0), x -> x.program());
        read.then(x -> x.write(0, 0, 0)).due("what is behind it now", x -> x.cell(0, 1, false), 3);
        tapeOf(400).then(x -> x.end(381)).refuses("cut to 381", TapeEdgesTest::feedBlanks, FULL);
        tapeOf(400).then(x -> x.end(380)).due("cut to 380", TapeEdgesTest::feedBlanks, 400);
    }

    /** 'calls that read it empty it', with or without a fault */
    private static void readingEmptiesIt() {
        String[] texts = {"", " ", "c1:=1", "c1:=", "$", "c1:=1" + " ".repeat(395), "(".repeat(400)};
        for (String text : texts) {
            Story story = new Story().fed(text).then(x -> x.program());
            Check.due("left of '" + text + "'", story.tapeLength(), 0);
            story.refuses("a byte of '" + text + "'", x -> x.end(1), REFUSED);
            story.due("feed after '" + text + "'", TapeEdgesTest::feedBlanks, 20);
            story.due("read again after '" + text + "'", x -> x.program(), 0);
        }
    }

    private static void otherCallsLeaveIt() {
        Story story = Stories.busy()
            .then(x -> x.write(0, 0, 0), x -> x.write(9, 0, 0), x -> x.read(0, 0, 0, false), x -> x.assure(0, 1, true))
            .then(x -> x.commit(1), x -> x.meet(0, 1, 9), x -> x.forget(0, 1), x -> x.cell(0, 0, true))
            .then(x -> x.order(0, 0), x -> x.outcome(0, 0), x -> x.look(0, 0), x -> x.stamp(0, 0, 0))
            .then(x -> x.count(0, 0), x -> x.writes());
        Check.due("after calls of all other kinds there are", story.tapeLength(), 13);
        story.due("and they are read", x -> x.program(), NONE);
        story.then(x -> x.program(), x -> x.write(2, 7, 0)).due("as they were", x -> x.cell(2, 5, false), 77);
    }
}
