/** One method for each promise of the document: ordinary inputs, edges, wrong inputs. */
public final class PromisesTest {
    private static final int REFUSED = DriftStore.REFUSED;
    private static final int NONE = DriftStore.NONE;
    private static final int FULL = DriftStore.FULL;
    private static final int DENIED = DriftStore.DENIED;
    private static final int HIGHEST = Check.HIGHEST;
    private static final int LOWEST = Check.LOWEST;

    public static void main(String[] args) {
        promise1NewObject();
        promise2Feed();
        promise3End();
        promise4Program();
        promise5Write();
        promise5WriteDenied();
        promise6Read();
        promise6ReadDenied();
        promise7Assure();
        promise8Commit();
        promise9Meet();
        promise9MeetForgotten();
        promise9MeetPartly();
        promise10Forget();
        promise11Cell();
        promise12Order();
        promise13Outcome();
        promise14Look();
        promise15Stamp();
        promise16Count();
        promise17Writes();
        Check.finish("PromisesTest");
    }

    private static void due(String what, long got, long want) {
        Check.due(what, got, want);
    }

    /** c0 tells the order in which writes were done, as digits that are the servers. */
    private static DriftStore digits() {
        return Check.storeWith("c0 := c0 * 10 + server");
    }

    private static void promise1NewObject() {
        due("REFUSED", DriftStore.REFUSED, -1);
        due("NONE", DriftStore.NONE, -2);
        due("FULL", DriftStore.FULL, -3);
        due("DENIED", DriftStore.DENIED, -4);
        DriftStore x = new DriftStore();
        due("1 writes", x.writes(), 0);
        due("1 tape", x.end(1), REFUSED);
        due("1 commit", x.commit(5), 0);
        for (int s = 0; s < 5; s++) {
            for (int what = 0; what < 4; what++) {
                due("1 count", x.count(s, what), 0);
            }
            for (int c = 0; c < 32; c++) {
                due("1 cell", x.cell(s, c, false), 0);
                due("1 committed cell", x.cell(s, c, true), 0);
            }
            due("1 order", x.order(s, 0), NONE);
            due("1 outcome", x.outcome(s, 0), NONE);
            due("1 vector", x.stamp(0, s, s), 0);
        }
        for (int s = 0; s < 8; s++) {
            due("1 read vector", x.stamp(1, s, 0), 0);
            due("1 write vector", x.stamp(2, s, 4), 0);
            due("1 assurances", x.assure(s, 0, false), 0);
        }
        due("1 look", x.look(0, 0), NONE);
        DriftStore y = digits();
        y.write(0, 0, 0);
        due("1 objects share nothing", x.writes(), 0);
        due("1 objects share no program", x.write(0, 0, 0), NONE);
    }

    private static void promise2Feed() {
        DriftStore x = new DriftStore();
        due("2 first", x.feed(0x63313a3d, 0x31323334, 0x20202020, 0x20202020, 0x20202020), 20);
        due("2 second", x.feed(0x2b202020, 0x20202020, 0x20202020, 0x20202020, 0x20202037), 40);
        due("2 read as a program", x.program(), NONE);
        x.write(0, 0, 0);
        due("2 bytes in their order", x.cell(0, 1, false), 1241);
        for (int i = 1; i <= 20; i++) {
            due("2 up to 400", x.feed(-1, LOWEST, HIGHEST, 0, 1), i * 20);
        }
        due("2 full", x.feed(0, 0, 0, 0, 0), FULL);
        due("2 full again", x.feed(0, 0, 0, 0, 0), FULL);
        due("2 full changes nothing", x.end(400), 400);
        due("2 cut", x.end(381), 381);
        due("2 full with one too much", x.feed(0, 0, 0, 0, 0), FULL);
        due("2 nothing was added", x.end(382), REFUSED);
        due("2 cut more", x.end(380), 380);
        due("2 just room", x.feed(0, 0, 0, 0, 0), 400);
        due("2 bytes above 127 begin no token", x.program(), 0);
        due("2 after program the tape is empty", x.feed(0, 0, 0, 0, 0), 20);
    }

    private static void promise3End() {
        DriftStore x = new DriftStore();
        due("3 nothing to cut", x.end(0), 0);
        due("3 more than it has", x.end(1), REFUSED);
        due("3 below 0", x.end(-1), REFUSED);
        due("3 lowest", x.end(LOWEST), REFUSED);
        due("3 highest", x.end(HIGHEST), REFUSED);
        x.feed(0x63313a3d, 0x37383920, 0x20202020, 0x20202020, 0x20202020);
        due("3 one too many", x.end(21), REFUSED);
        due("3 all", x.end(20), 20);
        due("3 cut", x.end(6), 6);
        due("3 what is cut is gone", x.end(7), REFUSED);
        due("3 feed goes behind what is left",
            x.feed(0x20202020, 0x20202020, 0x20202020, 0x20202020, 0x202b2031), 26);
        due("3 program", x.program(), NONE);
        x.write(0, 0, 0);
        due("3 its first bytes stay", x.cell(0, 1, false), 79);
    }

    private static void promise4Program() {
        DriftStore x = new DriftStore();
        due("4 empty", x.program(), 0);
        due("4 no program yet", x.write(0, 0, 0), NONE);
        due("4 good", Check.program(x, "c1 := 1"), NONE);
        due("4 the tape was read", x.end(1), REFUSED);
        due("4 write", x.write(0, 0, 0), 0);
        due("4 fault", Check.program(x, "c1 := 2 2"), 8);
        due("4 the tape was read with a fault, too", x.end(1), REFUSED);
        due("4 write with the one before", x.write(0, 0, 0), 1);
        due("4 the one before stays", x.cell(0, 1, false), 1);
        due("4 empty has a fault", x.program(), 0);
        due("4 write with the one before, again", x.write(0, 0, 0), 2);
        due("4 another", Check.program(x, "c1 := c1 + 5"), NONE);
        x.write(0, 0, 0);
        x.write(0, 0, 0);
        due("4 one program for many writes, each with its own", x.cell(0, 1, false), 11);
    }

    private static void promise5Write() {
        DriftStore x = new DriftStore();
        due("5 refused comes before none", x.write(5, 0, 0), REFUSED);
        due("5 none", x.write(0, 0, 0), NONE);
        Check.program(x, "c0 := stamp");
        due("5 server", x.write(5, 0, 0), REFUSED);
        due("5 server below", x.write(-1, 0, 0), REFUSED);
        due("5 server far", x.write(HIGHEST, 0, 0), REFUSED);
        due("5 session", x.write(0, 8, 0), REFUSED);
        due("5 session below", x.write(0, -1, 0), REFUSED);
        due("5 time below", x.write(0, 0, -1), REFUSED);
        due("5 time above", x.write(0, 0, 1000000001), REFUSED);
        due("5 nothing was taken", x.writes(), 0);
        due("5 the clock stands", x.count(0, 3), 0);
        due("5 first", x.write(4, 7, 0), 0);
        due("5 stamp", x.look(0, 1), 1);
        due("5 time is the stamp", x.write(4, 7, 10), 1);
        due("5 stamp 10", x.look(1, 1), 10);
        due("5 time that is not above", x.write(4, 7, 11), 2);
        due("5 stamp 11", x.look(2, 1), 11);
        due("5 time of the past", x.write(4, 7, 3), 3);
        due("5 stamp 12", x.look(3, 1), 12);
        due("5 clock", x.count(4, 3), 12);
        due("5 other clocks", x.count(3, 3), 0);
        due("5 write vector", x.stamp(2, 7, 4), 12);
        due("5 read vector", x.stamp(1, 7, 4), 0);
        due("5 other sessions", x.stamp(2, 6, 4), 0);
        due("5 latest time", x.write(4, 7, 1000000000), 4);
        due("5 after the latest time", x.write(4, 7, 1000000000), 5);
        due("5 its stamp", x.look(5, 1), 1000000001);
        due("5 done at once", x.cell(4, 0, false), 1000000001);
        DriftStore y = Check.storeWith("c0 := c0 + 1");
        for (int i = 0; i < 500; i++) {
            due("5 up to 500", y.write(i % 5, i % 8, 0), i);
        }
        due("5 full", y.write(0, 0, 0), FULL);
        due("5 refused comes before full", y.write(0, 9, 0), REFUSED);
        y.assure(0, 8, false);
        due("5 full comes before denied", y.write(0, 0, 0), FULL);
        due("5 all done", y.cell(4, 0, false), 100);
        due("5 write vector with the latest of its writes there", y.stamp(2, 3, 4), 100);
        due("5 still 500", y.writes(), 500);
    }

    private static void promise5WriteDenied() {
        DriftStore x = digits();
        x.write(1, 0, 0);
        x.read(1, 2, 0, false);
        for (int bits = 0; bits < 16; bits++) {
            x.assure(2, bits, false);
            int before = x.writes();
            int got = x.write(3, 2, 0);
            due("5 follows its reads, bits " + bits, got, (bits & 4) != 0 ? DENIED : before);
        }
        DriftStore y = digits();
        y.write(1, 2, 0);
        for (int bits = 0; bits < 16; bits++) {
            y.assure(2, bits, false);
            int before = y.writes();
            int got = y.write(3, 2, 0);
            due("5 follows its writes, bits " + bits, got, (bits & 8) != 0 ? DENIED : before);
        }
        int clock = y.count(3, 3);
        y.assure(2, 8, false);
        due("5 denied", y.write(3, 2, 999), DENIED);
        due("5 denied leaves the clock", y.count(3, 3), clock);
        due("5 denied leaves the write vector", y.stamp(2, 2, 3), clock);
        due("5 others may", y.write(3, 1, 0) >= 0 ? 1 : 0, 1);
        y.meet(1, 3, 1);
        due("5 no longer denied", y.write(3, 2, 0) >= 0 ? 1 : 0, 1);
    }

    private static void promise6Read() {
        DriftStore x = Check.storeWith("c0 := c0 + 1, c31 := 0 - 2147483647 - 1");
        x.write(0, 0, 4);
        x.write(2, 0, 6);
        due("6 server", x.read(5, 0, 0, false), Check.NO_CELL);
        due("6 server below", x.read(-1, 0, 0, false), Check.NO_CELL);
        due("6 session", x.read(0, 8, 0, false), Check.NO_CELL);
        due("6 session below", x.read(0, -1, 0, true), Check.NO_CELL);
        due("6 cell", x.read(0, 0, 32, false), Check.NO_CELL);
        due("6 cell below", x.read(0, 0, -1, true), Check.NO_CELL);
        due("6 all wrong", x.read(HIGHEST, LOWEST, HIGHEST, true), Check.NO_CELL);
        due("6 refused reads leave the vector", x.stamp(1, 0, 0), 0);
        due("6 value", x.read(0, 1, 0, false), 1);
        due("6 lowest value", x.read(0, 1, 31, false), LOWEST);
        due("6 read vector", x.stamp(1, 1, 0), 4);
        due("6 not of others", x.stamp(1, 1, 2), 0);
        due("6 committed", x.read(2, 1, 0, true), 0);
        due("6 the vector is the server's, read committed or not", x.stamp(1, 1, 2), 6);
        due("6 what was read before stays", x.stamp(1, 1, 0), 4);
        due("6 the write vector stays", x.stamp(2, 1, 2), 0);
        x.commit(1);
        due("6 committed at the primary", x.read(0, 1, 0, true), 1);
    }

    private static void promise6ReadDenied() {
        DriftStore x = digits();
        x.write(1, 3, 0);
        for (int bits = 0; bits < 16; bits++) {
            x.assure(3, bits, false);
            due("6 reads what it wrote, bits " + bits, x.read(2, 3, 0, bits > 7),
                (bits & 1) != 0 ? Check.DENIED_READ : 0);
            due("6 where it wrote, bits " + bits, x.read(1, 4, 0, false), 1);
        }
        DriftStore y = digits();
        y.write(1, 0, 0);
        y.write(2, 0, 0);
        y.read(1, 3, 0, true);
        for (int bits = 0; bits < 16; bits++) {
            y.assure(3, bits, false);
            due("6 reads no less, bits " + bits, y.read(4, 3, 0, bits > 7),
                (bits & 2) != 0 ? Check.DENIED_READ : 0);
        }
        y.assure(3, 3, false);
        due("6 denied", y.read(2, 3, 0, false), Check.DENIED_READ);
        due("6 denied leaves the read vector", y.stamp(1, 3, 2), 0);
        due("6 wrong cell comes first", y.read(2, 3, 32, false), Check.NO_CELL);
        eachStampCounts();
        y.meet(1, 2, 1);
        due("6 no longer denied", y.read(2, 3, 0, false), 12);
    }

    /** One stamp that is less is enough, whichever server's it is. */
    private static void eachStampCounts() {
        for (int s = 0; s < 5; s++) {
            DriftStore x = digits();
            for (int other = 0; other < 5; other++) {
                x.write(other, 0, 0);
                x.write(other, 1, 0);
            }
            x.assure(2, 15, true);
            x.read(s, 2, 0, false);
            x.assure(3, 15, true);
            x.write(s, 3, 0);
            for (int at = 0; at < 5; at++) {
                long read = x.read(at, 2, 0, false);
                due("6 read by one that read at " + s, read == Check.DENIED_READ ? 1 : 0, at == s ? 0 : 1);
                long own = x.read(at, 3, 0, true);
                due("6 read by one that wrote at " + s, own == Check.DENIED_READ ? 1 : 0, at == s ? 0 : 1);
                if (at != s) {
                    due("5 write by one that read at " + s, x.write(at, 2, 0), DENIED);
                    due("5 write by one that wrote at " + s, x.write(at, 3, 0), DENIED);
                }
            }
        }
    }

    private static void promise7Assure() {
        DriftStore x = digits();
        due("7 first", x.assure(0, 5, false), 0);
        due("7 what they were", x.assure(0, 15, false), 5);
        due("7 other sessions", x.assure(7, 1, false), 0);
        due("7 session", x.assure(8, 1, false), REFUSED);
        due("7 session below", x.assure(-1, 1, false), REFUSED);
        due("7 bits above 15", x.assure(0, 16, true), REFUSED);
        due("7 all bits", x.assure(0, HIGHEST, true), REFUSED);
        due("7 the highest bit is above 15, too", x.assure(0, LOWEST, true), REFUSED);
        due("7 below 0", x.assure(0, -1, true), REFUSED);
        due("7 refused leaves them", x.assure(0, 0, false), 15);
        x.write(1, 0, 0);
        x.read(1, 0, 0, false);
        due("7 refused leaves the vectors", x.assure(0, 16, true), REFUSED);
        x.assure(0, 3, false);
        due("7 not fresh, read vector", x.stamp(1, 0, 1), 1);
        due("7 not fresh, write vector", x.stamp(2, 0, 1), 1);
        x.write(1, 1, 0);
        due("7 fresh", x.assure(0, 15, true), 3);
        due("7 fresh read vector", x.stamp(1, 0, 1), 0);
        due("7 fresh write vector", x.stamp(2, 0, 1), 0);
        due("7 the other session's stays", x.stamp(2, 1, 1), 2);
        due("7 fresh allows", x.read(2, 0, 0, false), 0);
    }

    private static void promise8Commit() {
        DriftStore x = digits();
        due("8 below", x.commit(-1), REFUSED);
        due("8 lowest", x.commit(LOWEST), REFUSED);
        due("8 nothing there", x.commit(HIGHEST), 0);
        x.write(0, 0, 5);
        x.write(1, 0, 3);
        x.write(2, 0, 5);
        due("8 only the primary's", x.commit(9), 1);
        x.meet(1, 0, 9);
        x.meet(2, 0, 9);
        x.write(0, 0, 0);
        due("8 none", x.commit(0), 0);
        due("8 order", x.cell(0, 0, false), 120);
        due("8 one", x.commit(1), 1);
        due("8 the first one of the tentative ones", x.look(1, 2), 2);
        due("8 not yet", x.look(2, 2), 0);
        due("8 committed database", x.cell(0, 0, true), 1);
        due("8 others know nothing", x.count(1, 1), 0);
        due("8 as many as there are", x.commit(HIGHEST), 2);
        due("8 committed all", x.cell(0, 0, true), 120);
        // What is committed stays before what is learned later, even with smaller stamps.
        x.write(3, 0, 1);
        x.meet(3, 0, 1);
        due("8 stays", x.cell(0, 0, false), 1203);
        due("8 last", x.commit(1), 1);
        due("8 the how manieth", x.look(4, 2), 5);
    }

    private static void promise9Meet() {
        DriftStore x = digits();
        due("9 n", x.meet(0, 1, -1), REFUSED);
        due("9 from", x.meet(5, 1, 1), REFUSED);
        due("9 from below", x.meet(-1, 1, 1), REFUSED);
        due("9 to", x.meet(0, 5, 1), REFUSED);
        due("9 to below", x.meet(0, -1, 1), REFUSED);
        due("9 twice the same", x.meet(2, 2, 1), REFUSED);
        due("9 nothing", x.meet(0, 1, HIGHEST), 0);
        x.write(1, 0, 10);
        x.write(1, 0, 20);
        x.write(2, 0, 15);
        x.write(2, 0, 20);
        due("9 none", x.meet(1, 2, 0), 0);
        due("9 first", x.meet(1, 2, 1), 1);
        due("9 in order of stamps", x.order(2, 0), 0);
        due("9 clock stays ahead", x.count(2, 3), 20);
        due("9 first of the order", x.cell(2, 0, false), 122);
        due("9 second", x.meet(1, 2, 7), 1);
        due("9 same stamps by servers", x.cell(2, 0, false), 1212);
        due("9 nothing new", x.meet(1, 2, 7), 0);
        due("9 all to another", x.meet(2, 3, HIGHEST), 4);
        due("9 done in that order there", x.cell(3, 0, false), 1212);
        due("9 the clock has the stamp", x.count(3, 3), 20);
        due("9 the next write follows", x.write(3, 0, 0), 4);
        due("9 with a greater stamp", x.look(4, 1), 21);
        due("9 vector", x.stamp(0, 3, 2), 20);
        due("9 the giver learns nothing", x.count(1, 0), 2);
        due("9 a tentative one that is known is no item", x.meet(3, 1, 9), 3);
    }

    private static void promise9MeetForgotten() {
        DriftStore x = digits();
        for (int i = 0; i < 6; i++) {
            x.write(0, 0, 100);
        }
        x.commit(5);
        x.meet(0, 3, 2);
        x.forget(0, 3);
        due("9 none of the forgotten item", x.meet(0, 1, 0), 0);
        due("9 still unknown", x.count(1, 0), 0);
        due("9 forgotten ones are one item", x.meet(0, 1, 1), 1);
        due("9 known", x.count(1, 0), 3);
        due("9 committed", x.count(1, 1), 3);
        due("9 forgotten as many", x.count(1, 2), 3);
        due("9 clock of what was forgotten", x.count(1, 3), 102);
        due("9 vector of what was forgotten", x.stamp(0, 1, 0), 102);
        due("9 the rest", x.meet(0, 1, 9), 3);
        due("9 the forgotten item and the rest", x.meet(0, 2, 9), 4);
        due("9 knew two of three as committed", x.meet(0, 3, 9), 4);
        due("9 has forgotten as many then", x.count(3, 2), 3);
        // A taker that knows all of them as committed is not made to forget.
        DriftStore y = digits();
        y.write(0, 0, 0);
        y.write(0, 0, 0);
        y.commit(1);
        y.meet(0, 1, 1);
        y.forget(0, 1);
        due("9 no forgotten item", y.meet(0, 1, 9), 1);
        due("9 not forgotten", y.count(1, 2), 0);
        // One that knows the write as tentative learns that it is committed.
        y.meet(0, 2, 9);
        due("9 two known", y.count(2, 0), 2);
        y.commit(1);
        y.forget(0, 9);
        due("9 known, but as tentative", y.meet(0, 2, 9), 1);
        due("9 now committed", y.count(2, 1), 2);
        due("9 and forgotten", y.count(2, 2), 2);
        due("9 no write twice", y.count(2, 0), 2);
    }

    private static void promise9MeetPartly() {
        DriftStore x = digits();
        x.write(4, 0, 1);
        x.write(3, 0, 2);
        x.write(0, 0, 3);
        x.meet(3, 0, 1);
        x.commit(2);
        x.write(0, 0, 9);
        x.meet(4, 0, 9);
        due("9 committed ones stand first", x.cell(0, 0, false), 3040);
        x.meet(4, 1, 1);
        x.meet(3, 1, 1);
        due("9 tentative at first", x.cell(1, 0, false), 43);
        due("9 its being committed is an item", x.meet(0, 1, 1), 1);
        due("9 moves to the front", x.cell(1, 0, false), 34);
        due("9 its committed database", x.cell(1, 0, true), 3);
        due("9 an unknown one and its being committed are one", x.meet(0, 1, 1), 1);
        due("9 behind the other", x.cell(1, 0, true), 30);
        due("9 a tentative one", x.meet(0, 1, 9), 1);
        due("9 as the primary", x.cell(1, 0, false), 3040);
        due("9 who is behind brings no commits back", x.meet(3, 1, 9), 0);
        due("9 commits reach others through others", x.meet(1, 2, 9), 4);
        due("9 with their order", x.cell(2, 0, true), 30);
        due("9 with their tentative ones", x.cell(2, 0, false), 3040);
    }

    private static void promise10Forget() {
        DriftStore x = digits();
        due("10 server", x.forget(5, 1), REFUSED);
        due("10 server below", x.forget(-1, 1), REFUSED);
        due("10 n", x.forget(0, -1), REFUSED);
        due("10 lowest", x.forget(0, LOWEST), REFUSED);
        for (int i = 0; i < 5; i++) {
            x.write(0, 0, 0);
        }
        due("10 tentative ones stay", x.forget(0, 9), 0);
        x.commit(4);
        due("10 none", x.forget(0, 0), 0);
        due("10 one", x.forget(0, 1), 1);
        due("10 two more", x.forget(0, 2), 3);
        due("10 as many as there are", x.forget(0, HIGHEST), 4);
        due("10 no more", x.forget(0, HIGHEST), 4);
        due("10 others forget nothing", x.count(1, 2), 0);
        due("10 still known", x.count(0, 0), 5);
        due("10 still committed", x.count(0, 1), 4);
        due("10 what they made stays", x.cell(0, 0, true), 0);
        DriftStore y = Check.storeWith("c0 := c0 + 1");
        y.write(0, 0, 0);
        y.write(0, 0, 0);
        y.commit(2);
        y.meet(0, 1, 2);
        due("10 at another server", y.forget(1, 1), 1);
        due("10 it stays in the database", y.cell(1, 0, false), 2);
        due("10 it can not give them one by one", y.meet(1, 2, 1), 1);
        due("10 one item for the forgotten one", y.count(2, 2), 1);
    }

    private static void promise11Cell() {
        DriftStore x = Check.storeWith("c0 := c0 + 1, c31 := 0 - stamp");
        due("11 server", x.cell(5, 0, false), Check.NO_CELL);
        due("11 server below", x.cell(-1, 0, true), Check.NO_CELL);
        due("11 cell", x.cell(0, 32, false), Check.NO_CELL);
        due("11 cell below", x.cell(0, -1, true), Check.NO_CELL);
        due("11 far", x.cell(HIGHEST, LOWEST, true), Check.NO_CELL);
        x.write(0, 0, 7);
        x.write(0, 0, 0);
        due("11 value", x.cell(0, 0, false), 2);
        due("11 last cell", x.cell(0, 31, false), -8);
        due("11 not committed", x.cell(0, 0, true), 0);
        x.commit(1);
        due("11 database as before", x.cell(0, 31, false), -8);
        due("11 committed database", x.cell(0, 31, true), -7);
        x.meet(0, 1, 1);
        due("11 of another server", x.cell(1, 31, false), -7);
        due("11 session vectors stay", x.stamp(1, 0, 0), 0);
        // What is tentative is done again when something comes before it.
        DriftStore y = Check.storeWith("if c0 = 0 then c0 := stamp else c1 := c1 + 1");
        y.write(1, 0, 50);
        due("11 alone", y.cell(1, 0, false), 50);
        y.write(2, 0, 40);
        y.meet(2, 1, 1);
        due("11 done again", y.cell(1, 0, false), 40);
        due("11 other effect", y.cell(1, 1, false), 1);
    }

    private static void promise12Order() {
        DriftStore x = digits();
        x.write(3, 0, 5);
        x.write(1, 0, 5);
        x.write(0, 0, 5);
        x.write(0, 0, 4);
        due("12 server", x.order(5, 0), REFUSED);
        due("12 server below", x.order(-1, 0), REFUSED);
        due("12 first", x.order(0, 0), 2);
        due("12 second", x.order(0, 1), 3);
        due("12 behind the last", x.order(0, 2), NONE);
        due("12 below", x.order(0, -1), NONE);
        due("12 lowest", x.order(0, LOWEST), NONE);
        due("12 highest", x.order(0, HIGHEST), NONE);
        due("12 of one that knows none", x.order(2, 0), NONE);
        x.meet(3, 0, 1);
        x.meet(1, 0, 1);
        int[] want = {2, 1, 0, 3};
        for (int k = 0; k < 4; k++) {
            due("12 by stamps, then servers", x.order(0, k), want[k]);
        }
        x.commit(2);
        x.forget(0, 1);
        for (int k = 0; k < 4; k++) {
            due("12 committed and forgotten ones, too", x.order(0, k), want[k]);
        }
        due("12 no more", x.order(0, 4), NONE);
    }

    private static void promise13Outcome() {
        DriftStore x = Check.storeWith("if c0 = 0 then c0 := 1 else if c0 = 1 then c0 := 2");
        x.write(1, 0, 10);
        x.write(1, 0, 20);
        x.write(2, 0, 5);
        due("13 server", x.outcome(5, 0), REFUSED);
        due("13 server comes first", x.outcome(-1, 99), REFUSED);
        due("13 write", x.outcome(1, 3), NONE);
        due("13 write below", x.outcome(1, -1), NONE);
        due("13 far", x.outcome(1, HIGHEST), NONE);
        due("13 past all", x.outcome(1, 500), NONE);
        due("13 not known", x.outcome(1, 2), NONE);
        due("13 rule 1", x.outcome(1, 0), 1);
        due("13 rule 2", x.outcome(1, 1), 2);
        x.meet(2, 1, 1);
        due("13 done again, 1", x.outcome(1, 2), 1);
        due("13 done again, 2", x.outcome(1, 0), 2);
        due("13 done again, none", x.outcome(1, 1), 0);
        due("13 at the other server", x.outcome(2, 2), 1);
        due("13 not known there", x.outcome(2, 0), NONE);
        x.meet(1, 0, 9);
        x.commit(3);
        x.forget(0, 3);
        due("13 forgotten ones, too", x.outcome(0, 0), 2);
        x.meet(0, 4, 1);
        due("13 ones that were forgotten when learned", x.outcome(4, 1), 0);
        due("13 all of them", x.outcome(4, 2), 1);
        // The same write may end differently in the order in which it was committed.
        DriftStore y = Check.storeWith("if c0 = 0 then c0 := 1 else c0 := 2");
        y.write(1, 0, 1);
        y.write(0, 0, 5);
        y.commit(1);
        y.meet(1, 0, 1);
        y.commit(1);
        due("13 tentative at its server", y.outcome(1, 0), 1);
        y.meet(0, 1, 9);
        due("13 committed second", y.outcome(1, 0), 2);
        due("13 committed first", y.outcome(1, 1), 1);
    }

    private static void promise14Look() {
        DriftStore x = digits();
        due("14 what", x.look(0, 3), REFUSED);
        due("14 what below", x.look(0, -1), REFUSED);
        due("14 what, first", x.look(-7, HIGHEST), REFUSED);
        for (int what = 0; what < 3; what++) {
            due("14 none yet", x.look(0, what), NONE);
        }
        x.write(4, 0, 77);
        x.write(0, 0, 3);
        due("14 server", x.look(0, 0), 4);
        due("14 stamp", x.look(0, 1), 77);
        due("14 not committed", x.look(0, 2), 0);
        due("14 below", x.look(-1, 0), NONE);
        due("14 behind the last", x.look(2, 1), NONE);
        due("14 far", x.look(HIGHEST, 2), NONE);
        x.commit(1);
        x.meet(4, 0, 1);
        x.commit(1);
        due("14 first", x.look(1, 2), 1);
        due("14 second", x.look(0, 2), 2);
    }

    private static void promise15Stamp() {
        DriftStore x = digits();
        x.write(1, 6, 11);
        x.write(2, 7, 22);
        x.meet(2, 1, 1);
        x.read(1, 7, 0, false);
        due("15 vector", x.stamp(0, 1, 1), 11);
        due("15 vector of another's", x.stamp(0, 1, 2), 22);
        due("15 vector of none", x.stamp(0, 1, 4), 0);
        due("15 not known", x.stamp(0, 2, 1), 0);
        due("15 read vector", x.stamp(1, 7, 1), 11);
        due("15 read vector of nothing", x.stamp(1, 6, 1), 0);
        due("15 write vector", x.stamp(2, 7, 2), 22);
        due("15 write vector of another server", x.stamp(2, 7, 1), 0);
        due("15 what", x.stamp(3, 0, 0), REFUSED);
        due("15 what below", x.stamp(-1, 0, 0), REFUSED);
        due("15 server", x.stamp(0, 5, 0), REFUSED);
        due("15 server below", x.stamp(0, -1, 0), REFUSED);
        due("15 last session", x.stamp(1, 7, 0), 0);
        due("15 session to read", x.stamp(1, 8, 0), REFUSED);
        due("15 session to write", x.stamp(2, 8, 0), REFUSED);
        due("15 session below", x.stamp(2, -1, 0), REFUSED);
        due("15 s", x.stamp(0, 0, 5), REFUSED);
        due("15 s of a session", x.stamp(1, 0, 5), REFUSED);
        due("15 s below", x.stamp(2, 0, -1), REFUSED);
        due("15 far", x.stamp(LOWEST, HIGHEST, HIGHEST), REFUSED);
        // The clock may be ahead of the vector's stamp, which is that of a write.
        x.write(1, 0, 0);
        due("15 clock and vector", x.stamp(0, 1, 1), 23);
    }

    private static void promise16Count() {
        DriftStore x = digits();
        x.write(0, 0, 8);
        x.write(0, 0, 0);
        x.write(0, 0, 0);
        x.commit(2);
        x.forget(0, 1);
        due("16 known", x.count(0, 0), 3);
        due("16 committed", x.count(0, 1), 2);
        due("16 forgotten", x.count(0, 2), 1);
        due("16 clock", x.count(0, 3), 10);
        due("16 what", x.count(0, 4), REFUSED);
        due("16 what below", x.count(0, -1), REFUSED);
        due("16 server", x.count(5, 0), REFUSED);
        due("16 server below", x.count(-1, 3), REFUSED);
        due("16 far", x.count(LOWEST, HIGHEST), REFUSED);
        x.meet(0, 4, 2);
        due("16 known at another", x.count(4, 0), 2);
        due("16 committed at another", x.count(4, 1), 2);
        due("16 forgotten at another", x.count(4, 2), 1);
        due("16 clock at another", x.count(4, 3), 9);
    }

    private static void promise17Writes() {
        DriftStore x = new DriftStore();
        due("17 none", x.writes(), 0);
        x.write(0, 0, 0);
        due("17 none without a program", x.writes(), 0);
        Check.program(x, "c1 := 1");
        x.write(0, 0, 0);
        x.write(4, 7, 0);
        x.write(5, 0, 0);
        due("17 two", x.writes(), 2);
        x.meet(0, 1, 1);
        x.commit(1);
        x.forget(0, 1);
        due("17 still two", x.writes(), 2);
    }
}
