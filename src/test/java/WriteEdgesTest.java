/** The edges of promises 5 and 17: who may write, the stamps, and 500 writes. Who is denied is SessionEdgesTest's. */
public final class WriteEdgesTest {
    private static final int REFUSED = DriftStore.REFUSED;
    private static final int NONE = DriftStore.NONE;
    private static final int FULL = DriftStore.FULL;
    private static final int LATEST = 1000000000;

    public static void main(String[] args) {
        serverIs0To4();
        sessionIs0To7();
        timeIs0To1000000000();
        noneWithoutProgram();
        refusedComesFirst();
        stampFollowsTheClock();
        stampsAboveTheLatestTime();
        clockOfEachServer();
        writeVectorOfThisServer();
        numberedFromZero();
        fullWith500();
        fullForAll();
        fullComesBeforeDenied();
        forgettingMakesNoRoom();
        Check.finish("WriteEdgesTest");
    }

    /** 'REFUSED if server is not 0 to 4' */
    private static void serverIs0To4() {
        Story busy = Stories.busy();
        for (int s : Check.outside(4)) {
            busy.refuses("server " + s, x -> x.write(s, 0, 0), REFUSED);
        }
        for (int i = 0; i < 5; i++) {
            int s = i;
            busy.due("server " + s, x -> x.write(s, 0, 0), 7);
            busy.then(x -> x.write(s, 0, 0)).due("taken by " + s, x -> x.look(7, 0), s);
        }
    }

    /** 'session not 0 to 7' */
    private static void sessionIs0To7() {
        Story story = Stories.writes(3);
        for (int s : Check.outside(7)) {
            story.refuses("session " + s, x -> x.write(0, s, 0), REFUSED);
            Stories.busy().refuses("busy session " + s, x -> x.write(0, s, 0), REFUSED);
        }
        for (int i = 0; i < 8; i++) {
            int s = i;
            story.due("session " + s, x -> x.write(4, s, 0), 3);
            story.then(x -> x.write(4, s, 0)).due("written in " + s, x -> x.stamp(2, s, 4), 1);
        }
    }

    /** 'or time below 0 or above 1000000000' */
    private static void timeIs0To1000000000() {
        Story busy = Stories.busy();
        for (int time : new int[] {-1, -2, Check.LOWEST, LATEST + 1, LATEST + 2, Check.HIGHEST}) {
            busy.refuses("time " + time, x -> x.write(0, 0, time), REFUSED);
        }
        for (int time : new int[] {0, 1, LATEST - 1, LATEST}) {
            busy.due("time " + time, x -> x.write(2, 0, time), 7);
            busy.then(x -> x.write(2, 0, time)).due("stamp of " + time, x -> x.look(7, 1), Math.max(10, time));
        }
    }

    /** 'NONE without a program' */
    private static void noneWithoutProgram() {
        new Story().refuses("no program", x -> x.write(0, 0, 0), NONE);
        new Story().then(x -> x.program()).refuses("an empty program", x -> x.write(4, 7, 9), NONE);
        Story faulty = new Story().fed("c1 := 1, c2").then(x -> x.program());
        faulty.refuses("a faulty program", x -> x.write(0, 0, LATEST), NONE);
        new Story().fed("c1 := 1").refuses("a program not yet read", x -> x.write(0, 0, 0), NONE);
        faulty.program("c1 := 1").due("a program", x -> x.write(0, 0, 0), 0);
    }

    private static void refusedComesFirst() {
        Story full = Stories.writes(500);
        for (Story story : new Story[] {new Story(), full}) {
            story.due("server before that", x -> x.write(5, 0, 0), REFUSED);
            story.due("session before that", x -> x.write(0, 8, 0), REFUSED);
            story.due("time before that", x -> x.write(0, 0, -1), REFUSED);
            story.due("late time before that", x -> x.write(0, 0, LATEST + 1), REFUSED);
        }
        Stories.busy().due("denied", x -> x.write(4, 5, 0), DriftStore.DENIED);
        Stories.busy().refuses("time before denied", x -> x.write(4, 5, -1), REFUSED);
    }

    /** 'its clock is 1 more, or time if that is above: this is the stamp' */
    private static void stampFollowsTheClock() {
        Story none = new Story().program("c1 := 1");
        int[] first = {1, 1, 2, 3};
        for (int i = 0; i < 4; i++) {
            int time = i;
            none.then(x -> x.write(1, 0, time)).due("first at " + time, x -> x.look(0, 1), first[i]);
        }
        Story ten = none.then(x -> x.write(1, 0, 10));
        int[][] next = {{0, 11}, {9, 11}, {10, 11}, {11, 11}, {12, 12}, {13, 13}, {LATEST, LATEST}};
        for (int[] pair : next) {
            Story story = ten.then(x -> x.write(1, 0, pair[0]));
            story.due("after 10, at " + pair[0], x -> x.look(1, 1), pair[1]);
            story.due("the clock then", x -> x.count(1, 3), pair[1]);
            story.due("the vector then", x -> x.stamp(0, 1, 1), pair[1]);
        }
    }

    private static void stampsAboveTheLatestTime() {
        Story story = new Story().program("c1 := stamp").then(x -> x.write(3, 0, LATEST));
        story.due("the latest time", x -> x.look(0, 1), LATEST);
        for (int i = 1; i <= 20; i++) {
            int write = i;
            int time = i % 2 == 0 ? 0 : LATEST;
            story.due("one more", x -> x.write(3, 0, time), i);
            story = story.then(x -> x.write(3, 0, time));
            story.due("its stamp", x -> x.look(write, 1), LATEST + i);
        }
        story.due("the clock", x -> x.count(3, 3), LATEST + 20);
        story.due("it is done with it", x -> x.cell(3, 1, false), LATEST + 20);
    }

    /** 'Each server has a CLOCK, 0 at first' */
    private static void clockOfEachServer() {
        for (int i = 0; i < 5; i++) {
            int s = i;
            new Story().due("clock of " + s, x -> x.count(s, 3), 0);
            Story story = Stories.writesAt(s, 3);
            for (int j = 0; j < 5; j++) {
                int other = j;
                story.due("clock of " + j + " after writes at " + s, x -> x.count(other, 3), j == s ? 3 : 0);
            }
        }
    }

    /** 'The write vector's stamp of this server is that stamp then' */
    private static void writeVectorOfThisServer() {
        Story story = Stories.writesAt(2, 5).then(x -> x.write(2, 6, 0), x -> x.write(1, 6, 99), x -> x.write(2, 1, 0));
        int[] want = {0, 99, 6, 0, 0};
        for (int i = 0; i < 5; i++) {
            int s = i;
            story.due("write vector, " + i, x -> x.stamp(2, 6, s), want[i]);
            story.due("read vector, " + i, x -> x.stamp(1, 6, s), 0);
            story.due("another's write vector, " + i, x -> x.stamp(2, 1, s), i == 2 ? 7 : 0);
        }
    }

    /** 'WRITES are numbered from 0 as they are taken'; 'How many writes there are' */
    private static void numberedFromZero() {
        for (int n : new int[] {0, 1, 2, 100, 498, 499}) {
            Story story = Stories.writes(n);
            story.due("writes", x -> x.writes(), n);
            story.due("the next one", x -> x.write(3, 3, 0), n);
            story.then(x -> x.write(3, 3, 0)).due("and then", x -> x.writes(), n + 1);
        }
        Story refused = Stories.writes(2).then(x -> x.write(5, 0, 0), x -> x.write(0, 0, -1));
        refused.due("a refused one has no number", x -> x.write(0, 0, 0), 2);
    }

    /** 'at most 500'; 'FULL with 500' */
    private static void fullWith500() {
        Stories.writes(498).due("the 499th", x -> x.write(0, 0, 0), 498);
        Stories.writes(499).due("the 500th", x -> x.write(0, 0, 0), 499);
        Story full = Stories.writes(500);
        full.refuses("the 501st", x -> x.write(0, 0, LATEST), FULL);
        full.due("still", x -> x.writes(), 500);
        full.due("the last one's stamp", x -> x.look(499, 1), 100);
        full.due("none behind it", x -> x.look(500, 1), NONE);
    }

    private static void fullForAll() {
        Story full = Stories.writes(500);
        for (int i = 0; i < 8; i++) {
            int session = i;
            full.due("full for session " + i, x -> x.write(session % 5, session, 0), FULL);
        }
        Story one = Stories.writesAt(4, 500);
        one.due("500 at one server", x -> x.cell(4, 0, false), 500);
        one.due("full for the others, too", x -> x.write(0, 1, 0), FULL);
        one.then(x -> x.write(0, 1, 0)).due("full again", x -> x.write(4, 0, 0), FULL);
    }

    private static void fullComesBeforeDenied() {
        Story denied = Stories.writes(499).then(x -> x.assure(0, 8, false));
        denied.due("denied", x -> x.write(0, 0, 0), DriftStore.DENIED);
        Story full = Stories.writes(500).then(x -> x.assure(0, 8, false));
        full.refuses("full and denied", x -> x.write(0, 0, 0), FULL);
    }

    private static void forgettingMakesNoRoom() {
        Story story = Stories.writesAt(0, 500).then(x -> x.commit(500));
        story.due("500 forgotten", x -> x.forget(0, 500), 500);
        story.then(x -> x.forget(0, 500)).refuses("full", x -> x.write(0, 0, 0), FULL);
    }
}
