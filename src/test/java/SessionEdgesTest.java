/** The edges of promises 6 and 7, of DENIED in promise 5, and of what 'Terms' says of SESSIONS and vectors. */
public final class SessionEdgesTest {
    private static final int REFUSED = DriftStore.REFUSED;
    private static final int READER = 1;
    private static final int WRITER = 2;

    public static void main(String[] args) {
        zeroAtFirst();
        readServerIs0To4();
        readSessionIs0To7();
        readCellIs0To31();
        readRefusedBeforeDenied();
        readOfFarInts();
        readsOfEachDatabase();
        readVectorGrows();
        readVectorOfThisSession();
        atLeastTheVector();
        atLeastInEachStamp();
        emptyVectorsDenyNothing();
        deniedNoMore();
        assureSessionIs0To7();
        assureBitsUpTo15();
        assureAnswersWhatTheyWere();
        assureFresh();
        assureNotFresh();
        Check.finish("SessionEdgesTest");
    }

    /** 'ASSURANCES, bits, 0 at first'; 'a READ VECTOR and a WRITE VECTOR, all 0 at first' */
    private static void zeroAtFirst() {
        for (int i = 0; i < 8; i++) {
            int session = i;
            new Story().due("assurances of " + i, x -> x.assure(session, 15, true), 0);
            for (int j = 0; j < 5; j++) {
                int s = j;
                new Story().due("read vector of " + i, x -> x.stamp(1, session, s), 0);
                new Story().due("write vector of " + i, x -> x.stamp(2, session, s), 0);
            }
        }
    }

    /** '2^40 REFUSED, for another server' */
    private static void readServerIs0To4() {
        Story busy = Stories.busy();
        for (int s : Check.outside(4)) {
            busy.refuses("read at " + s, x -> x.read(s, 0, 0, false), 1L << 40);
            busy.refuses("read of committed at " + s, x -> x.read(s, 0, 0, true), 1L << 40);
        }
        for (int i = 0; i < 5; i++) {
            int s = i;
            busy.due("read at " + i, x -> x.read(s, 2, 1, false), busy.ask(x -> x.cell(s, 1, false)));
        }
    }

    private static void readSessionIs0To7() {
        Story busy = Stories.busy();
        for (int s : Check.outside(7)) {
            busy.refuses("read in " + s, x -> x.read(0, s, 0, false), 1L << 40);
        }
        Story plain = Stories.writesAt(0, 3);
        for (int i = 0; i < 8; i++) {
            int s = i;
            plain.due("read in " + i, x -> x.read(0, s, 0, false), 3);
        }
    }

    private static void readCellIs0To31() {
        Story busy = Stories.busy();
        for (int c : Check.outside(31)) {
            busy.refuses("read of cell " + c, x -> x.read(0, 0, c, false), 1L << 40);
            busy.refuses("read of committed cell " + c, x -> x.read(0, 0, c, true), 1L << 40);
        }
        Story edges = new Story().program("c0 := 5, c31 := 6").then(x -> x.write(3, 0, 0));
        edges.due("read of cell 0", x -> x.read(3, 0, 0, false), 5);
        edges.due("read of cell 30", x -> x.read(3, 0, 30, false), 0);
        edges.due("read of cell 31", x -> x.read(3, 0, 31, false), 6);
    }

    private static void readRefusedBeforeDenied() {
        Story busy = Stories.busy();
        busy.refuses("denied", x -> x.read(4, 5, 0, false), (1L << 40) + 1);
        busy.refuses("denied of committed", x -> x.read(4, 5, 0, true), (1L << 40) + 1);
        busy.refuses("a wrong cell before denied", x -> x.read(4, 5, 32, false), 1L << 40);
        busy.refuses("a cell below before denied", x -> x.read(4, 5, -1, false), 1L << 40);
    }

    /** '2^40 and above' are no values: the farthest ints come as they are. */
    private static void readOfFarInts() {
        Story story = Stories.written("c1 := 2147483647, c2 := 0 - 2147483647 - 1, c3 := 0 - 1");
        story.due("highest", x -> x.read(0, 0, 1, false), 2147483647L);
        story.due("lowest", x -> x.read(0, 0, 2, false), -2147483648L);
        story.due("below 0", x -> x.read(0, 0, 3, false), -1L);
        Story committed = story.then(x -> x.commit(1));
        committed.due("highest committed", x -> x.read(0, 0, 1, true), 2147483647L);
        committed.due("lowest committed", x -> x.read(0, 0, 2, true), -2147483648L);
    }

    /** '(of its committed database, if committed)' */
    private static void readsOfEachDatabase() {
        Story story = Stories.writesAt(0, 5);
        for (int i = 0; i <= 5; i++) {
            int n = i;
            Story committed = story.then(x -> x.commit(n));
            committed.due("read with " + n + " committed", x -> x.read(0, 0, 0, false), 5);
            committed.due("read of committed with " + n, x -> x.read(0, 0, 0, true), n);
        }
    }

    /** 'Each stamp of the read vector becomes that of the server's vector, if that is above' */
    private static void readVectorGrows() {
        Story story = Stories.writesAt(1, 3).then(x -> x.meet(1, 2, 2), x -> x.meet(1, 3, 2), x -> x.write(2, 0, 50));
        Story high = story.then(x -> x.read(1, READER, 0, true));
        high.due("from 0", x -> x.stamp(1, READER, 1), 3);
        Story both = high.then(x -> x.read(2, READER, 0, false));
        both.due("one below stays", x -> x.stamp(1, READER, 1), 3);
        both.due("one above comes", x -> x.stamp(1, READER, 2), 50);
        both.changesNothing("a read of the same", x -> x.read(1, READER, 31, false));
        Story low = story.then(x -> x.read(3, READER, 0, false));
        low.due("from 0 to less", x -> x.stamp(1, READER, 1), 2);
        low.then(x -> x.read(1, READER, 0, false)).due("one more", x -> x.stamp(1, READER, 1), 3);
        for (int i = 0; i < 5; i++) {
            int s = i;
            both.due("the write vector stays", x -> x.stamp(2, READER, s), 0);
        }
    }

    private static void readVectorOfThisSession() {
        Story story = Stories.writes(5);
        for (int i = 0; i < 8; i++) {
            int session = i;
            Story read = story.then(x -> x.read(4, session, 0, false));
            for (int j = 0; j < 40; j++) {
                int which = j;
                int want = which / 5 == session && which % 5 == 4 ? 1 : 0;
                read.due("read vectors", x -> x.stamp(1, which / 5, which % 5), want);
            }
        }
    }

    /**
     * Server s has writes with stamps 10, 11, 12; the reader has read up to 11 of them, the writer wrote
     * the one with 11, and another server knows n of them, and one of its own that is far above.
     */
    private static Story known(int s, int n) {
        int other = (s + 1) % 5;
        int between = (s + 2) % 5;
        return new Story().program("c0 := c0 + 1")
            .then(x -> x.write(s, 7, 10), x -> x.write(s, WRITER, 0), x -> x.write(s, 7, 0))
            .then(x -> x.meet(s, between, 2), x -> x.read(between, READER, 0, false))
            .then(x -> x.write(other, 7, 500), x -> x.meet(s, other, n));
    }

    /** 'A vector is AT LEAST another one if each of its stamps is': one less, the same, one more. */
    private static void atLeastTheVector() {
        for (int s = 0; s < 5; s++) {
            for (int n = 0; n <= 3; n++) {
                for (int bits = 0; bits < 16; bits++) {
                    mayReadAndWrite(s, n, bits);
                }
            }
        }
    }

    private static void mayReadAndWrite(int s, int n, int bits) {
        int other = (s + 1) % 5;
        Story story = known(s, n).then(x -> x.assure(READER, bits, false), x -> x.assure(WRITER, bits, false));
        String name = " who knows " + n + " of " + s + ", bits " + bits;
        boolean less = n < 2;
        reads("reader" + name, story, other, READER, less && (bits & 2) != 0, n + 1);
        reads("writer" + name, story, other, WRITER, less && (bits & 1) != 0, n + 1);
        writes("reader" + name, story, other, READER, less && (bits & 4) != 0);
        writes("writer" + name, story, other, WRITER, less && (bits & 8) != 0);
    }

    private static void reads(String name, Story story, int server, int session, boolean denied, int value) {
        if (denied) {
            story.refuses("read of a " + name, x -> x.read(server, session, 0, false), (1L << 40) + 1);
            story.due("read of committed of a " + name, x -> x.read(server, session, 0, true), (1L << 40) + 1);
        } else {
            story.due("read of a " + name, x -> x.read(server, session, 0, false), value);
            story.due("read of committed of a " + name, x -> x.read(server, session, 0, true), 0);
        }
    }

    private static void writes(String name, Story story, int server, int session, boolean denied) {
        if (denied) {
            story.refuses("write of a " + name, x -> x.write(server, session, 600), DriftStore.DENIED);
        } else {
            story.due("write of a " + name, x -> x.write(server, session, 600), 4);
        }
    }

    /** One stamp that is less is enough, though all others are more. */
    private static void atLeastInEachStamp() {
        for (int i = 0; i < 5; i++) {
            int s = i;
            int at = (s + 3) % 5;
            Story story = Stories.writes(10).then(x -> x.read(s, READER, 0, false), x -> x.assure(READER, 6, false));
            for (int j = 0; j < 5; j++) {
                int from = j;
                int many = from == s ? 1 : 2;
                story = from == at ? story : story.then(x -> x.meet(from, at, many));
            }
            story.refuses("one less of " + s, x -> x.read(at, READER, 0, false), (1L << 40) + 1);
            story.refuses("one less of " + s, x -> x.write(at, READER, 0), DriftStore.DENIED);
            Story all = story.then(x -> x.meet(s, at, 1));
            all.due("no less of " + s, x -> x.read(at, READER, 0, false), 10);
            all.due("no less of " + s, x -> x.write(at, READER, 0), 10);
        }
    }

    private static void emptyVectorsDenyNothing() {
        Story story = Stories.writesAt(1, 2).then(x -> x.assure(READER, 15, false));
        for (int i = 0; i < 5; i++) {
            int s = i;
            story.due("read with all assurances", x -> x.read(s, READER, 0, false), i == 1 ? 2 : 0);
            story.due("write with all assurances", x -> x.write(s, READER, 0), 2);
        }
    }

    private static void deniedNoMore() {
        Story busy = Stories.busy();
        busy.due("denied", x -> x.write(4, 5, 0), DriftStore.DENIED);
        Story met = busy.then(x -> x.meet(2, 4, 9), x -> x.meet(3, 4, 9));
        met.due("write when it knows all", x -> x.write(4, 5, 0), 7);
        met.due("read when it knows all", x -> x.read(4, 5, 31, false), 0);
        busy.then(x -> x.assure(5, 0, false)).due("write without assurances", x -> x.write(4, 5, 0), 7);
        busy.then(x -> x.assure(5, 15, true)).due("write with new vectors", x -> x.write(4, 5, 0), 7);
        busy.then(x -> x.assure(5, 15, true)).due("read with new vectors", x -> x.read(4, 5, 31, false), 0);
    }

    /** 'REFUSED for another session' */
    private static void assureSessionIs0To7() {
        Story busy = Stories.busy();
        for (int s : Check.outside(7)) {
            busy.refuses("assure " + s, x -> x.assure(s, 1, false), REFUSED);
            busy.refuses("assure fresh " + s, x -> x.assure(s, 1, true), REFUSED);
        }
        int[] before = {0, 10, 0, 0, 0, 15, 5, 0};
        for (int i = 0; i < 8; i++) {
            int s = i;
            busy.due("assure " + i, x -> x.assure(s, 1, false), before[i]);
            Story then = busy.then(x -> x.assure(s, 9, false));
            for (int j = 0; j < 8; j++) {
                int other = j;
                then.due("then " + j, x -> x.assure(other, 0, false), i == j ? 9 : before[j]);
            }
        }
    }

    /** 'or bits above 15'; one below 0 has such bits, too */
    private static void assureBitsUpTo15() {
        Story busy = Stories.busy();
        for (int bits : new int[] {16, 17, 31, 32, 1 << 30, Check.HIGHEST, Check.LOWEST, -1, -16}) {
            busy.refuses("bits " + bits, x -> x.assure(5, bits, false), REFUSED);
            busy.refuses("bits " + bits + ", fresh", x -> x.assure(5, bits, true), REFUSED);
        }
        for (int i = 0; i <= 15; i++) {
            int bits = i;
            busy.due("bits " + i, x -> x.assure(5, bits, false), 15);
        }
    }

    /** 'A session's assurances become others: what they were' */
    private static void assureAnswersWhatTheyWere() {
        for (int i = 0; i <= 15; i++) {
            int bits = i;
            Story story = new Story().then(x -> x.assure(7, bits, bits % 2 == 0));
            story.due("what they were", x -> x.assure(7, 15 - bits, true), bits);
            Story became = story.then(x -> x.assure(7, 15 - bits, true));
            became.due("what they became", x -> x.assure(7, 0, false), 15 - bits);
        }
    }

    /** 'its vectors are 0 if fresh' */
    private static void assureFresh() {
        Story story = Stories.writes(25).then(x -> x.meet(0, 1, 9), x -> x.meet(1, 2, 99), x -> x.meet(2, 3, 99))
            .then(x -> x.meet(3, 4, 99), x -> x.read(4, 0, 0, false), x -> x.read(4, 1, 0, false));
        Story fresh = story.then(x -> x.assure(0, 3, true));
        for (int i = 0; i < 80; i++) {
            int which = i;
            int session = which % 40 / 5;
            Story.Call stamp = x -> x.stamp(1 + which / 40, session, which % 5);
            fresh.due("stamps of " + session, stamp, session == 0 ? 0 : story.ask(stamp));
        }
        story.due("the read vector was there", x -> x.stamp(1, 0, 4), 5);
        story.due("the write vector was there", x -> x.stamp(2, 0, 4), 5);
    }

    private static void assureNotFresh() {
        Story story = Stories.writes(25).then(x -> x.read(4, 0, 0, false));
        story.changesNothing("the same, not fresh", x -> x.assure(0, 0, false));
    }
}
