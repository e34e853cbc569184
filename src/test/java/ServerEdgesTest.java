/** The edges of promises 1, 8 and 10 to 16: what a server has, and what can be asked of it. */
public final class ServerEdgesTest {
    private static final int REFUSED = DriftStore.REFUSED;
    private static final int NONE = DriftStore.NONE;
    private static final long NO_CELL = 1L << 40;

    public static void main(String[] args) {
        nothingAtFirst();
        commitAsManyAsThereAre();
        commitNotBelowZero();
        commitOfThePrimaryOnly();
        forgetAsManyAsThereAre();
        forgetNotBelowZero();
        forgetServerIs0To4();
        forgetLeavesTheRest();
        cellServerAndCell();
        cellsAtTheirEdges();
        orderServerIs0To4();
        orderFromZero();
        orderByStampsThenServers();
        outcomeServerIs0To4();
        outcomeOfNoWrite();
        outcomeOfForgotten();
        lookWhatIs0To2();
        lookOfNoWrite();
        lookHowManieth();
        stampWhatIs0To2();
        stampOfAndS();
        stampIsTheGreatest();
        countServerAndWhat();
        countsAtTheirEdges();
        lookingChangesNothing();
        lookingBetweenChangesNothing();
        Check.finish("ServerEdgesTest");
    }

    /** 'No writes' */
    private static void nothingAtFirst() {
        Story story = new Story();
        story.due("writes", x -> x.writes(), 0);
        story.due("look", x -> x.look(0, 0), NONE);
        story.refuses("commit", x -> x.commit(1), 0);
        for (int i = 0; i < 5; i++) {
            int s = i;
            story.due("order", x -> x.order(s, 0), NONE);
            story.due("outcome", x -> x.outcome(s, 0), NONE);
            story.refuses("forget", x -> x.forget(s, 1), 0);
            story.refuses("meet", x -> x.meet(s, (s + 1) % 5, 1), 0);
            for (int j = 0; j < 4; j++) {
                int what = j;
                story.due("count", x -> x.count(s, what), 0);
            }
            for (int j = 0; j < 64; j++) {
                int cell = j;
                story.due("cell", x -> x.cell(s, cell / 2, cell % 2 == 0), 0);
            }
        }
    }

    /** 'commits the first n of its tentative writes, or as many as there are: how many' */
    private static void commitAsManyAsThereAre() {
        for (int tentative : new int[] {0, 1, 4}) {
            Story story = Stories.writesAt(0, 2 + tentative).then(x -> x.commit(2));
            for (int n : new int[] {0, 1, tentative, tentative + 1, 500, Check.HIGHEST}) {
                int many = Math.min(n, tentative);
                story.due("commit " + n + " of " + tentative, x -> x.commit(n), many);
                Story then = story.then(x -> x.commit(n));
                then.due("committed", x -> x.count(0, 1), 2 + many);
                then.due("all", x -> x.count(0, 0), 2 + tentative);
                then.due("committed database", x -> x.cell(0, 0, true), 2 + many);
                then.due("first one committed or not", x -> x.look(2, 2), tentative == 0 ? NONE : many > 0 ? 3 : 0);
                then.due("the rest", x -> x.commit(Check.HIGHEST), tentative - many);
            }
        }
        Stories.busy().changesNothing("commit of none", x -> x.commit(0));
        Story full = Stories.writesAt(0, 500);
        full.due("499 of 500", x -> x.commit(499), 499);
        full.due("500 of 500", x -> x.commit(500), 500);
        full.due("501 of 500", x -> x.commit(501), 500);
        full.then(x -> x.commit(499)).due("the last one", x -> x.commit(2), 1);
        full.then(x -> x.commit(500)).due("no more", x -> x.commit(1), 0);
        full.then(x -> x.commit(500)).due("the 500th", x -> x.look(499, 2), 500);
    }

    /** 'REFUSED if n is below 0' */
    private static void commitNotBelowZero() {
        for (int n : new int[] {-1, -2, -500, Check.LOWEST}) {
            Stories.busy().refuses("commit " + n, x -> x.commit(n), REFUSED);
            new Story().refuses("commit " + n, x -> x.commit(n), REFUSED);
        }
    }

    /** '0 is the PRIMARY' */
    private static void commitOfThePrimaryOnly() {
        for (int i = 0; i < 5; i++) {
            int s = i;
            Story story = Stories.writesAt(s, 2);
            story.due("commit of writes at " + i, x -> x.commit(9), i == 0 ? 2 : 0);
            story.then(x -> x.commit(9)).due("committed at " + i, x -> x.count(s, 1), i == 0 ? 2 : 0);
        }
    }

    /** 'forgets n more of its committed writes, or as many as there are, in their order: how many ... in all' */
    private static void forgetAsManyAsThereAre() {
        Story story = Stories.writesAt(0, 6).then(x -> x.commit(4));
        for (int i = 0; i <= 4; i++) {
            int first = i;
            Story begun = story.then(x -> x.forget(0, first));
            for (int n : new int[] {0, 1, 4 - first, 5 - first, 500, Check.HIGHEST - 1, Check.HIGHEST}) {
                int all = (int) Math.min(4L, (long) first + n);
                begun.due("forget " + n + " after " + first, x -> x.forget(0, n), all);
                begun.then(x -> x.forget(0, n)).due("forgotten", x -> x.count(0, 2), all);
            }
        }
        Stories.busy().changesNothing("forget of none", x -> x.forget(0, 0));
        Story full = Stories.writesAt(0, 500).then(x -> x.commit(499));
        full.due("499 of 499", x -> x.forget(0, 500), 499);
        full.then(x -> x.commit(1)).due("500 of 500", x -> x.forget(0, 501), 500);
    }

    /** 'or n below 0' */
    private static void forgetNotBelowZero() {
        for (int n : new int[] {-1, -2, -500, Check.LOWEST}) {
            Stories.busy().refuses("forget " + n, x -> x.forget(0, n), REFUSED);
            Stories.busy().refuses("forget " + n + " at 4", x -> x.forget(4, n), REFUSED);
        }
    }

    private static void forgetServerIs0To4() {
        for (int s : Check.outside(4)) {
            Stories.busy().refuses("forget at " + s, x -> x.forget(s, 1), REFUSED);
        }
        int[] want = {2, 2, 0, 0, 1};
        for (int i = 0; i < 5; i++) {
            int s = i;
            Stories.busy().due("forget at " + i, x -> x.forget(s, 9), want[i]);
        }
    }

    /** 'it knows that they are, and what they made' */
    private static void forgetLeavesTheRest() {
        Story story = Stories.writesAt(0, 6).then(x -> x.commit(4));
        Story forgotten = story.then(x -> x.forget(0, 4));
        for (int k = -1; k < 7; k++) {
            int n = k;
            forgotten.due("order", x -> x.order(0, n), story.ask(x -> x.order(0, n)));
            forgotten.due("outcome", x -> x.outcome(0, n), story.ask(x -> x.outcome(0, n)));
            forgotten.due("look", x -> x.look(n, 2), story.ask(x -> x.look(n, 2)));
        }
        forgotten.due("database", x -> x.cell(0, 0, false), 6);
        forgotten.due("committed database", x -> x.cell(0, 0, true), 4);
        forgotten.due("known", x -> x.count(0, 0), 6);
        forgotten.due("committed", x -> x.count(0, 1), 4);
        forgotten.due("vector", x -> x.stamp(0, 0, 0), 6);
        forgotten.due("others", x -> x.count(1, 2), 0);
    }

    /** '2^40 for another server or cell' */
    private static void cellServerAndCell() {
        for (int s : Check.outside(4)) {
            Stories.busy().due("cell at " + s, x -> x.cell(s, 0, false), NO_CELL);
            Stories.busy().due("committed cell at " + s, x -> x.cell(s, 0, true), NO_CELL);
        }
        for (int c : Check.outside(31)) {
            Stories.busy().due("cell " + c, x -> x.cell(0, c, false), NO_CELL);
            Stories.busy().due("committed cell " + c, x -> x.cell(4, c, true), NO_CELL);
        }
    }

    private static void cellsAtTheirEdges() {
        for (int i = 0; i < 5; i++) {
            int s = i;
            Story story = new Story().program("c0 := 2147483647, c31 := 0 - 2147483647 - 1")
                .then(x -> x.write(s, 0, 0));
            story.due("the first cell", x -> x.cell(s, 0, false), 2147483647L);
            story.due("the last cell", x -> x.cell(s, 31, false), -2147483648L);
            story.due("a cell between", x -> x.cell(s, 30, false), 0);
            story.due("the last cell, committed", x -> x.cell(s, 31, true), 0);
            Story committed = story.then(x -> x.meet(s, 0, 1), x -> x.commit(1), x -> x.meet(0, s, 1));
            committed.due("the first cell, committed", x -> x.cell(s, 0, true), 2147483647L);
            committed.due("the last cell, now committed", x -> x.cell(s, 31, true), -2147483648L);
        }
    }

    /** 'REFUSED for another server' */
    private static void orderServerIs0To4() {
        for (int s : Check.outside(4)) {
            Stories.busy().due("order at " + s, x -> x.order(s, 0), REFUSED);
            Stories.busy().due("no order at " + s, x -> x.order(s, -1), REFUSED);
        }
    }

    /** 'Write k of a server's order, from 0'; 'NONE if there is none' */
    private static void orderFromZero() {
        for (int committed = 0; committed <= 3; committed++) {
            int n = committed;
            Story story = Stories.writesAt(0, 3).then(x -> x.commit(n), x -> x.forget(0, n - 1));
            for (int k : new int[] {-1, -2, 3, 4, 499, 500, 501, Check.HIGHEST, Check.LOWEST}) {
                story.due("order " + k + " of 3", x -> x.order(0, k), NONE);
            }
            for (int k = 0; k < 3; k++) {
                int place = k;
                story.due("order " + k + " of 3", x -> x.order(0, place), k);
            }
            story.due("of one that knows none", x -> x.order(3, 0), NONE);
        }
        Story full = Stories.writesAt(2, 500);
        full.due("the last of 500", x -> x.order(2, 499), 499);
        full.due("none behind it", x -> x.order(2, 500), NONE);
    }

    /** 'TENTATIVE, by stamps, then by their servers' */
    private static void orderByStampsThenServers() {
        Story story = new Story().program("c0 := c0 * 10 + server")
            .then(x -> x.write(4, 0, 8), x -> x.write(3, 0, 7), x -> x.write(2, 0, 7))
            .then(x -> x.write(1, 0, 7), x -> x.write(0, 0, 6))
            .then(x -> x.meet(4, 1, 1), x -> x.meet(2, 1, 1), x -> x.meet(0, 1, 1), x -> x.meet(3, 1, 1));
        int[] want = {4, 3, 2, 1, 0};
        for (int i = 0; i < 5; i++) {
            int k = i;
            story.due("by stamps, then servers, " + i, x -> x.order(1, k), want[i]);
        }
        story.due("done so", x -> x.cell(1, 0, false), 1234);
        Story committed = story.then(x -> x.commit(1), x -> x.meet(1, 0, 1), x -> x.commit(1), x -> x.write(2, 0, 1));
        committed.due("the committed ones first", x -> x.order(0, 0), 4);
        committed.due("then the next one", x -> x.order(0, 1), 3);
    }

    private static void outcomeServerIs0To4() {
        for (int s : Check.outside(4)) {
            Stories.busy().due("outcome at " + s, x -> x.outcome(s, 0), REFUSED);
            Stories.busy().due("outcome of none at " + s, x -> x.outcome(s, -1), REFUSED);
            Stories.busy().due("outcome of far at " + s, x -> x.outcome(s, 500), REFUSED);
        }
    }

    /** 'NONE if the server does not know it, or there is none' */
    private static void outcomeOfNoWrite() {
        Story story = Stories.writes(3);
        for (int i = 0; i < 5; i++) {
            int s = i;
            for (int write : new int[] {-1, -2, 3, 4, 499, 500, 501, Check.HIGHEST, Check.LOWEST}) {
                story.due("outcome of " + write, x -> x.outcome(s, write), NONE);
            }
            for (int j = 0; j < 3; j++) {
                int write = j;
                story.due("outcome of " + j + " at " + i, x -> x.outcome(s, write), i == j ? 1 : NONE);
            }
        }
        Story full = Stories.writes(500);
        full.due("outcome of the last", x -> x.outcome(4, 499), 1);
        full.due("outcome of the last elsewhere", x -> x.outcome(3, 499), NONE);
        full.due("outcome behind the last", x -> x.outcome(4, 500), NONE);
    }

    /** '(one that is forgotten, too)' */
    private static void outcomeOfForgotten() {
        Story story = new Story().program("if c0 = 0 then c0 := 1 else if c0 = 1 then c0 := 2")
            .times(3, x -> x.write(0, 0, 0)).then(x -> x.commit(3), x -> x.forget(0, 3), x -> x.meet(0, 4, 1));
        int[] want = {1, 2, 0};
        for (int i = 0; i < 3; i++) {
            int write = i;
            story.due("outcome of forgotten " + i, x -> x.outcome(0, write), want[i]);
            story.due("outcome where it came forgotten, " + i, x -> x.outcome(4, write), want[i]);
            story.due("outcome where it is not known, " + i, x -> x.outcome(3, write), NONE);
        }
    }

    /** 'REFUSED for another what, first' */
    private static void lookWhatIs0To2() {
        for (int what : Check.outside(2)) {
            for (int write : new int[] {0, 6, 7, -1, 500, Check.LOWEST}) {
                Stories.busy().due("look at " + write + ", " + what, x -> x.look(write, what), REFUSED);
            }
            new Story().due("look at nothing, " + what, x -> x.look(0, what), REFUSED);
        }
    }

    /** 'NONE if there is none' */
    private static void lookOfNoWrite() {
        for (int what = 0; what <= 2; what++) {
            int w = what;
            for (int write : new int[] {7, 8, -1, 499, 500, 501, Check.HIGHEST, Check.LOWEST}) {
                Stories.busy().due("look at " + write, x -> x.look(write, w), NONE);
            }
            new Story().due("look at nothing", x -> x.look(0, w), NONE);
        }
        Story busy = Stories.busy();
        busy.due("server of the first", x -> x.look(0, 0), 0);
        busy.due("stamp of the first", x -> x.look(0, 1), 5);
        busy.due("server of the last", x -> x.look(6, 0), 4);
        busy.due("stamp of the last", x -> x.look(6, 1), 4);
    }

    /** 'the how manieth it was committed, from 1, 0 if it is not (at the primary)' */
    private static void lookHowManieth() {
        Story story = new Story().program("c0 := 1")
            .then(x -> x.write(0, 0, 9), x -> x.write(1, 0, 5), x -> x.write(1, 0, 7));
        Story first = story.then(x -> x.commit(1), x -> x.meet(1, 0, 9));
        int[][] want = {{1, 0, 0}, {1, 2, 0}, {1, 2, 3}};
        for (int i = 0; i < 3; i++) {
            int n = i;
            for (int j = 0; j < 3; j++) {
                int write = j;
                first.then(x -> x.commit(n)).due("how manieth", x -> x.look(write, 2), want[i][j]);
            }
        }
        Story known = first.then(x -> x.commit(2));
        known.due("the others need not know", x -> x.count(1, 1), 0);
        story.due("not committed", x -> x.look(0, 2), 0);
    }

    /** 'REFUSED for other numbers' */
    private static void stampWhatIs0To2() {
        for (int what : Check.outside(2)) {
            Stories.busy().due("stamp " + what, x -> x.stamp(what, 0, 0), REFUSED);
        }
    }

    private static void stampOfAndS() {
        Story busy = Stories.busy();
        for (int what = 0; what <= 2; what++) {
            int w = what;
            for (int of : Check.outside(w == 0 ? 4 : 7)) {
                busy.due("stamp " + w + " of " + of, x -> x.stamp(w, of, 0), REFUSED);
            }
            for (int s : Check.outside(4)) {
                busy.due("stamp " + w + ", " + s, x -> x.stamp(w, 0, s), REFUSED);
            }
            for (int of : new int[] {5, 6, 7}) {
                boolean refused = busy.ask(x -> x.stamp(w, of, 4)) == REFUSED;
                Check.holds("stamp " + w + " of " + of, refused == (w == 0));
            }
        }
        busy.due("the last server's last stamp", x -> x.stamp(0, 4, 4), 4);
        busy.due("the last stamp of a write vector", x -> x.stamp(2, 6, 4), 4);
        busy.due("the last session", x -> x.stamp(1, 7, 4), 0);
    }

    /** 'the greatest stamp of a write of that one which it knows, 0 if there is none' */
    private static void stampIsTheGreatest() {
        Story story = Stories.writesAt(1, 3).then(x -> x.write(2, 0, 1000000000));
        for (int i = 0; i <= 4; i++) {
            int n = i;
            Story met = story.then(x -> x.meet(1, 2, n));
            met.due("of " + n + " known", x -> x.stamp(0, 2, 1), Math.min(n, 3));
            met.due("its own stays", x -> x.stamp(0, 2, 2), 1000000000);
            met.due("of one that it does not know", x -> x.stamp(0, 1, 2), 0);
            met.due("of one without writes", x -> x.stamp(0, 2, 3), 0);
        }
    }

    /** 'REFUSED for others' */
    private static void countServerAndWhat() {
        for (int s : Check.outside(4)) {
            for (int i = 0; i < 4; i++) {
                int what = i;
                Stories.busy().due("count " + i + " of " + s, x -> x.count(s, what), REFUSED);
            }
        }
        for (int what : Check.outside(3)) {
            for (int i = 0; i < 5; i++) {
                int s = i;
                Stories.busy().due("count " + what + " of " + i, x -> x.count(s, what), REFUSED);
            }
        }
    }

    private static void countsAtTheirEdges() {
        int[][] want = {{4, 2, 1, 9}, {3, 2, 0, 6}, {1, 0, 0, 9}, {2, 0, 0, 5}, {2, 1, 1, 4}};
        for (int i = 0; i < 20; i++) {
            int which = i;
            Stories.busy().due("count", x -> x.count(which / 4, which % 4), want[i / 4][i % 4]);
        }
        Story full = Stories.writesAt(0, 500).then(x -> x.commit(500), x -> x.forget(0, 500));
        for (int i = 0; i < 4; i++) {
            int what = i;
            full.due("count of 500", x -> x.count(0, what), 500);
        }
    }

    private static void lookingChangesNothing() {
        Story busy = Stories.busy();
        for (int i = -1; i <= 5; i++) {
            int n = i;
            busy.changesNothing("cell", x -> x.cell(n, 1, n % 2 == 0));
            busy.changesNothing("order", x -> x.order(n, 1));
            busy.changesNothing("outcome", x -> x.outcome(n, 1));
            busy.changesNothing("look", x -> x.look(2, n));
            busy.changesNothing("stamp", x -> x.stamp(n, 1, 1));
            busy.changesNothing("count", x -> x.count(n, 1));
            busy.changesNothing("count of", x -> x.count(1, n));
        }
        busy.changesNothing("writes", x -> x.writes());
    }

    /** 'what is tentative is done again in another order when more comes to be known', looked at before or not */
    private static void lookingBetweenChangesNothing() {
        for (Story story : new Story[] {Stories.busy(), talk()}) {
            for (int n = 1; n <= story.size(); n++) {
                Story part = story.first(n);
                part.sameAs("a look at cells", part.watched(cellsOfAll()));
                part.sameAs("a look at outcomes", part.watched(x -> x.outcome(1, 0), x -> x.outcome(2, 1)));
                part.sameAs("a read", part.watched(x -> x.read(3, 7, 1, false), x -> x.assure(7, 0, true)));
            }
        }
    }

    private static Story.Call[] cellsOfAll() {
        Story.Call[] looks = new Story.Call[5];
        for (int i = 0; i < 5; i++) {
            int s = i;
            looks[i] = x -> x.cell(s, 0, false);
        }
        return looks;
    }

    /** Writes that come before others that were known longer, again and again. */
    private static Story talk() {
        Story story = new Story().program("if c0 < 5 then c0 := c0 * 3 + server else c0 := 1, c1 := c1 * 7 + stamp");
        for (int i = 0; i < 5; i++) {
            int s = i;
            story = story.then(x -> x.write(s, 0, 50 - 10 * s), x -> x.write(s, 1, 0), x -> x.write(s, 2, 70 - 5 * s));
        }
        for (int i = 0; i < 20; i++) {
            int n = i;
            story = story.then(x -> x.meet(n % 5, (n + 1 + n % 3) % 5, 1 + n % 3));
            story = n % 4 == 3 ? story.then(x -> x.commit(1), x -> x.forget(n % 2, 1)) : story;
        }
        return story;
    }
}
