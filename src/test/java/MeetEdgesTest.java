/** The edges of promise 9 and of what 'Terms' says of ITEMS, of what is forgotten, and of clocks. */
public final class MeetEdgesTest {
    private static final int REFUSED = DriftStore.REFUSED;
    private static final int[] MANY = {0, 1, 2, 3, 4, 5, 6, 7, 500, Check.HIGHEST};

    public static void main(String[] args) {
        notBelowZero();
        serversAre0To4();
        notTwiceTheSame();
        noneBringsNothing();
        asManyAsThereAre();
        tentativeOnesThatAreNotKnown();
        committedOnes();
        committedOnesThatAreKnown();
        allThatIsForgotten();
        forgottenByBoth();
        forgottenOnesThatAreKnown();
        forgottenByAnother();
        whoIsAheadLearnsNothing();
        clockOfTheStamp();
        clockOfWhatIsForgotten();
        fiveHundredItems();
        fiveHundredForgotten();
        lastOfFiveHundredFirst();
        theGiverStays();
        Check.finish("MeetEdgesTest");
    }

    /** 'REFUSED if n is below 0' */
    private static void notBelowZero() {
        for (int n : new int[] {-1, -2, -500, Check.LOWEST}) {
            Stories.busy().refuses("meet " + n, x -> x.meet(0, 2, n), REFUSED);
            Stories.busy().refuses("meet of one that forgot, " + n, x -> x.meet(0, 3, n), REFUSED);
            Stories.busy().refuses("meet with nothing new, " + n, x -> x.meet(1, 0, n), REFUSED);
        }
    }

    /** 'for other servers' */
    private static void serversAre0To4() {
        for (int s : Check.outside(4)) {
            Stories.busy().refuses("from " + s, x -> x.meet(s, 0, 1), REFUSED);
            Stories.busy().refuses("to " + s, x -> x.meet(0, s, 1), REFUSED);
            Stories.busy().refuses("twice " + s, x -> x.meet(s, s, 1), REFUSED);
        }
        for (int i = 0; i < 25; i++) {
            int from = i / 5;
            int to = i % 5;
            if (from != to) {
                Story story = Stories.writesAt(from, 2);
                story.due("from " + from + " to " + to, x -> x.meet(from, to, 9), 2);
                story.then(x -> x.meet(from, to, 9)).due("then it knows", x -> x.count(to, 0), 2);
                story.due("the other way", x -> x.meet(to, from, 9), 0);
            }
        }
    }

    /** 'or twice the same' */
    private static void notTwiceTheSame() {
        for (int i = 0; i < 5; i++) {
            int s = i;
            Stories.busy().refuses("twice " + i, x -> x.meet(s, s, 1), REFUSED);
            Stories.busy().refuses("twice for none " + i, x -> x.meet(s, s, 0), REFUSED);
        }
    }

    private static void noneBringsNothing() {
        for (int i = 0; i < 25; i++) {
            int from = i / 5;
            int to = i % 5;
            if (from != to) {
                Stories.busy().refuses("none from " + from + " to " + to, x -> x.meet(from, to, 0), 0);
            }
        }
    }

    /** 'the first n ITEMS ..., or as many as there are: how many' */
    private static void asManyAsThereAre() {
        Story story = Stories.writesAt(1, 5);
        for (int n : MANY) {
            int many = Math.min(n, 5);
            story.due(n + " of 5", x -> x.meet(1, 2, n), many);
            Story met = story.then(x -> x.meet(1, 2, n));
            met.due("known", x -> x.count(2, 0), many);
            met.due("their last", x -> x.order(2, many - 1), many == 0 ? DriftStore.NONE : many - 1);
            met.due("done", x -> x.cell(2, 0, false), many);
            met.due("the rest", x -> x.meet(1, 2, Check.HIGHEST), 5 - many);
            met.then(x -> x.meet(1, 2, 5)).due("no more", x -> x.meet(1, 2, 5), 0);
        }
    }

    /** 'of each tentative one that the other one does not know: the write' */
    private static void tentativeOnesThatAreNotKnown() {
        // The order at 1 is 1, 0, 2, 3, 4 of which 3 knows the ones of its own.
        Story story = new Story().program("c0 := c0 * 10 + stamp")
            .then(x -> x.write(2, 0, 2), x -> x.write(3, 0, 1), x -> x.write(2, 0, 3))
            .then(x -> x.write(3, 0, 4), x -> x.write(2, 0, 5))
            .then(x -> x.meet(3, 1, 9), x -> x.meet(2, 1, 9));
        long[] want = {14, 124, 1234, 12345, 12345};
        for (int i = 0; i < 5; i++) {
            int n = i;
            story.due("items", x -> x.meet(1, 3, n), Math.min(n, 3));
            story.then(x -> x.meet(1, 3, n)).due("in its own order", x -> x.cell(3, 0, false), want[i]);
        }
        story.due("all", x -> x.cell(1, 0, false), 12345);
    }

    /** The primary has 5 writes, of which it committed 3; server 1 knows the first ones as committed. */
    private static Story primary(int knownAsCommitted) {
        return Stories.writesAt(0, 5).then(x -> x.commit(3), x -> x.meet(0, 1, knownAsCommitted));
    }

    /** 'the write, if that does not know it, and its being committed, as one item' */
    private static void committedOnes() {
        for (int known = 0; known <= 3; known++) {
            Story story = primary(known);
            for (int n : MANY) {
                int items = Math.min(n, 5 - known);
                story.due("items", x -> x.meet(0, 1, n), items);
                Story met = story.then(x -> x.meet(0, 1, n));
                met.due("known", x -> x.count(1, 0), known + items);
                met.due("committed", x -> x.count(1, 1), Math.min(3, known + items));
                met.due("forgotten", x -> x.count(1, 2), 0);
                met.due("database", x -> x.cell(1, 0, false), known + items);
                met.due("committed database", x -> x.cell(1, 0, true), Math.min(3, known + items));
            }
        }
    }

    private static void committedOnesThatAreKnown() {
        for (int known = 0; known <= 5; known++) {
            int before = known;
            Story story = Stories.writesAt(0, 5).then(x -> x.meet(0, 1, before), x -> x.commit(3));
            for (int n : MANY) {
                int items = Math.min(n, 3 + 5 - Math.max(3, before));
                story.due("items", x -> x.meet(0, 1, n), items);
                Story met = story.then(x -> x.meet(0, 1, n));
                met.due("known", x -> x.count(1, 0), Math.max(before, Math.min(3, items)) + Math.max(0, items - 3));
                met.due("committed", x -> x.count(1, 1), Math.min(3, items));
            }
        }
    }

    /** 'first, as one item, ALL that is forgotten', but only with ones not known as committed */
    private static void allThatIsForgotten() {
        for (int known = 0; known <= 3; known++) {
            for (int f = 0; f <= 3; f++) {
                int forgotten = f;
                Story story = primary(known).then(x -> x.forget(0, forgotten));
                for (int n : MANY) {
                    meetsOneThatForgot(story, known, 0, forgotten, n);
                }
            }
        }
    }

    /** The taker has forgotten some of its own. */
    private static void forgottenByBoth() {
        for (int known = 0; known <= 3; known++) {
            for (int own = 0; own <= known; own++) {
                int itsOwn = own;
                for (int f = 0; f <= 3; f++) {
                    int forgotten = f;
                    Story story = primary(known).then(x -> x.forget(0, forgotten), x -> x.forget(1, itsOwn));
                    meetsOneThatForgot(story, known, itsOwn, forgotten, 1);
                    meetsOneThatForgot(story, known, itsOwn, forgotten, 9);
                }
            }
        }
    }

    private static void meetsOneThatForgot(Story story, int known, int own, int forgotten, int n) {
        boolean one = forgotten > known;
        int first = one ? forgotten : known;
        int items = Math.min(n, (one ? 1 : 0) + 5 - first);
        int after = n == 0 ? known : first + items - (one ? 1 : 0);
        String name = " to one with " + known + " committed, " + own + " forgotten from one with " + forgotten;
        story.due("items" + name, x -> x.meet(0, 1, n), items);
        Story met = story.then(x -> x.meet(0, 1, n));
        met.due("known" + name, x -> x.count(1, 0), after);
        met.due("committed" + name, x -> x.count(1, 1), Math.min(3, after));
        met.due("forgotten" + name, x -> x.count(1, 2), one && n > 0 ? forgotten : own);
        met.due("clock" + name, x -> x.count(1, 3), after);
        met.due("vector" + name, x -> x.stamp(0, 1, 0), after);
        met.due("database" + name, x -> x.cell(1, 0, false), after);
        met.due("committed database" + name, x -> x.cell(1, 0, true), Math.min(3, after));
    }

    /** Known as tentative is not known as committed. */
    private static void forgottenOnesThatAreKnown() {
        Story story = Stories.writesAt(0, 5).then(x -> x.meet(0, 1, 5), x -> x.commit(3), x -> x.forget(0, 2));
        story.due("what is forgotten, and one committed", x -> x.meet(0, 1, 9), 2);
        Story met = story.then(x -> x.meet(0, 1, 1));
        met.due("known", x -> x.count(1, 0), 5);
        met.due("committed", x -> x.count(1, 1), 2);
        met.due("forgotten", x -> x.count(1, 2), 2);
        met.due("the next one", x -> x.meet(0, 1, 9), 1);
    }

    /** 'but can give them to nobody' */
    private static void forgottenByAnother() {
        Story story = primary(3).then(x -> x.forget(1, 2));
        story.due("one that forgot two of three", x -> x.meet(1, 2, 9), 2);
        Story met = story.then(x -> x.meet(1, 2, 1));
        met.due("the two at once", x -> x.count(2, 1), 2);
        met.due("as forgotten ones", x -> x.count(2, 2), 2);
        met.due("which it can give to nobody", x -> x.meet(2, 3, 9), 1);
        met.then(x -> x.meet(2, 3, 9)).due("but at once", x -> x.count(3, 2), 2);
        story.due("the primary still gives each", x -> x.meet(0, 2, 3), 3);
        story.then(x -> x.meet(0, 2, 3)).due("not forgotten", x -> x.count(2, 2), 0);
    }

    private static void whoIsAheadLearnsNothing() {
        for (int known = 0; known <= 3; known++) {
            Story story = primary(known);
            story.refuses("one that knows " + known, x -> x.meet(1, 0, 9), 0);
            story.then(x -> x.forget(1, 9)).refuses("one that forgot " + known, x -> x.meet(1, 0, 9), 0);
        }
        Story story = primary(2).then(x -> x.write(1, 0, 0));
        story.due("only its own", x -> x.meet(1, 0, 9), 1);
        story.then(x -> x.meet(1, 0, 9)).due("committed as before", x -> x.count(0, 1), 3);
    }

    /** 'A server that learns a write has a clock of its stamp at least' */
    private static void clockOfTheStamp() {
        for (int time = 8; time <= 12; time++) {
            int t = time;
            Story story = new Story().program("c0 := 1").then(x -> x.write(1, 0, 10), x -> x.write(2, 0, t));
            story.due("before", x -> x.count(1, 3), 10);
            Story met = story.then(x -> x.meet(2, 1, 1));
            met.due("after " + t, x -> x.count(1, 3), Math.max(10, t));
            met.then(x -> x.write(1, 0, 0)).due("the next stamp", x -> x.look(2, 1), Math.max(10, t) + 1);
            met.due("the giver's", x -> x.count(2, 3), t);
        }
        Story far = new Story().program("c0 := 1").times(2, x -> x.write(3, 0, 1000000000)).then(x -> x.meet(3, 0, 9));
        far.due("a clock above the latest time", x -> x.count(0, 3), 1000000001);
        far.then(x -> x.write(0, 0, 1000000000)).due("and a stamp", x -> x.look(2, 1), 1000000002);
    }

    private static void clockOfWhatIsForgotten() {
        Story story = new Story().program("c0 := 1")
            .then(x -> x.write(0, 0, 20), x -> x.write(0, 0, 30), x -> x.commit(2), x -> x.write(1, 0, 25));
        story.then(x -> x.meet(0, 1, 1)).due("a committed one below", x -> x.count(1, 3), 25);
        story.then(x -> x.meet(0, 1, 2)).due("a committed one above", x -> x.count(1, 3), 30);
        Story one = story.then(x -> x.forget(0, 1), x -> x.meet(0, 1, 1));
        one.due("a forgotten one below", x -> x.count(1, 3), 25);
        Story both = story.then(x -> x.forget(0, 2), x -> x.meet(0, 1, 1));
        both.due("a forgotten one above", x -> x.count(1, 3), 30);
        both.due("its vector", x -> x.stamp(0, 1, 0), 30);
        both.then(x -> x.write(1, 0, 0)).due("the next stamp", x -> x.look(3, 1), 31);
    }

    private static void fiveHundredItems() {
        Story story = Stories.writesAt(3, 500);
        for (int n : new int[] {499, 500, 501, Check.HIGHEST}) {
            story.due("items", x -> x.meet(3, 4, n), Math.min(n, 500));
            Story met = story.then(x -> x.meet(3, 4, n));
            met.due("known", x -> x.count(4, 0), Math.min(n, 500));
            met.due("done", x -> x.cell(4, 0, false), Math.min(n, 500));
        }
        Story all = story.then(x -> x.meet(3, 0, 500), x -> x.commit(500));
        all.due("499 commits", x -> x.meet(0, 3, 499), 499);
        all.due("500 commits", x -> x.meet(0, 3, 501), 500);
        all.then(x -> x.meet(0, 3, 501)).due("all done", x -> x.cell(3, 0, true), 500);
    }

    private static void fiveHundredForgotten() {
        Story story = Stories.writesAt(0, 500).then(x -> x.commit(500), x -> x.forget(0, 500));
        story.due("one item", x -> x.meet(0, 2, Check.HIGHEST), 1);
        Story met = story.then(x -> x.meet(0, 2, 1));
        met.due("known", x -> x.count(2, 0), 500);
        met.due("committed", x -> x.count(2, 1), 500);
        met.due("forgotten", x -> x.count(2, 2), 500);
        met.due("done", x -> x.cell(2, 0, true), 500);
        met.due("no more", x -> x.meet(0, 2, 1), 0);
    }

    /** The one with the greatest stamp is committed first, and goes before 499 that are tentative. */
    private static void lastOfFiveHundredFirst() {
        Story story = Stories.writesAt(1, 499).then(x -> x.write(0, 0, 1000), x -> x.commit(1));
        Story met = story.then(x -> x.meet(0, 1, 1));
        met.due("the first one now", x -> x.order(1, 0), 499);
        met.due("the next one", x -> x.order(1, 1), 0);
        met.due("the last one", x -> x.order(1, 499), 498);
        met.due("none behind it", x -> x.order(1, 500), DriftStore.NONE);
        met.due("all of them", x -> x.cell(1, 0, false), 500);
        Story all = met.then(x -> x.meet(1, 0, 500), x -> x.commit(499));
        all.due("the last one committed", x -> x.look(498, 2), 500);
        Story known = Stories.writesAt(1, 499).then(x -> x.write(0, 0, 1000), x -> x.meet(0, 1, 1), x -> x.commit(1));
        known.due("the last of 500", x -> x.order(1, 499), 499);
        known.then(x -> x.meet(0, 1, 1)).due("goes to the front", x -> x.order(1, 0), 499);
        known.then(x -> x.meet(0, 1, 1)).due("with 499 behind it", x -> x.order(1, 499), 498);
    }

    private static void theGiverStays() {
        Story story = Stories.busy();
        for (int i = 1; i < 5; i++) {
            int to = i;
            Story met = story.then(x -> x.meet(0, to, 9));
            for (int j = 0; j < 4; j++) {
                int what = j;
                met.due("count of the giver", x -> x.count(0, what), story.ask(x -> x.count(0, what)));
            }
            for (int j = 0; j < 5; j++) {
                int k = j;
                met.due("order of the giver", x -> x.order(0, k), story.ask(x -> x.order(0, k)));
                met.due("vector of the giver", x -> x.stamp(0, 0, k), story.ask(x -> x.stamp(0, 0, k)));
                met.due("its read vector", x -> x.stamp(1, 0, k), story.ask(x -> x.stamp(1, 0, k)));
            }
        }
    }
}
