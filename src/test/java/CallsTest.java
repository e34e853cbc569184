/** 'An object is used for at most 512 calls': the last one is answered as the first. */
public final class CallsTest {
    private static final String LONG = "if c1<c2 then c1:=c1+1,c2:=c2+1,c3:=c3+1,c4:=c4+1,c5:=c5+1,c6:=c6+1"
        + ",c7:=c7+1,c8:=c8+1 else c1:=c2*2-c3+((((((c4*5)-c6)*7)+c8)-9)*stamp),c2:=c2*31+server";

    public static void main(String[] args) {
        lastCallOfEachKind();
        lastWrite();
        manyPrograms();
        manyRefusals();
        longTalk();
        laterCallsThrowNothing();
        Check.finish("CallsTest");
    }

    /** 511 calls have been made: 500 writes, and 8 that commit, meet and forget. */
    private static Story long511() {
        Story story = Stories.writes(500)
            .then(x -> x.meet(1, 0, 500), x -> x.meet(2, 0, 500), x -> x.meet(3, 0, 500), x -> x.meet(4, 0, 500))
            .then(x -> x.commit(400), x -> x.forget(0, 300), x -> x.meet(0, 4, 500), x -> x.read(4, 1, 0, false));
        Check.due("calls before the last", story.size(), Story.MOST_CALLS - 1);
        return story;
    }

    private static void lastCallOfEachKind() {
        Story story = long511();
        story.due("feed", x -> x.feed(0, 0, 0, 0, 0), 20);
        story.due("end", x -> x.end(0), 0);
        story.due("program", x -> x.program(), 0);
        story.due("write", x -> x.write(0, 0, 0), DriftStore.FULL);
        story.due("read", x -> x.read(0, 0, 0, true), 400);
        story.due("assure", x -> x.assure(0, 15, true), 0);
        story.due("commit", x -> x.commit(500), 100);
        story.due("meet", x -> x.meet(0, 1, 500), 1 + 100 + 80);
        story.due("forget", x -> x.forget(4, 50), 350);
        story.due("cell", x -> x.cell(4, 0, false), 500);
        story.due("order", x -> x.order(4, 499), 499);
        story.due("outcome", x -> x.outcome(4, 499), 1);
        story.due("look", x -> x.look(399, 2), 400);
        story.due("stamp", x -> x.stamp(1, 1, 3), 100);
        story.due("count", x -> x.count(4, 0), 500);
        story.due("writes", x -> x.writes(), 500);
    }

    private static void lastWrite() {
        Story story = Stories.writes(499).times(9, x -> x.writes());
        Check.due("calls before the last", story.size(), Story.MOST_CALLS - 1);
        story.due("the 500th write as the last call", x -> x.write(4, 7, 0), 499);
    }

    private static void manyPrograms() {
        Story story = new Story();
        for (int i = 0; i < 170; i++) {
            story = story.program("c1:=c1+1");
        }
        story = story.then(x -> x.write(0, 0, 0));
        Check.due("calls before the last", story.size(), Story.MOST_CALLS - 1);
        story.due("the last program", x -> x.cell(0, 1, false), 1);
        new Story().times(511, x -> x.program()).due("the 512th empty program", x -> x.program(), 0);
    }

    private static void manyRefusals() {
        new Story().times(511, x -> x.write(9, 9, 9)).due("the 512th refusal", x -> x.write(0, 0, 0), DriftStore.NONE);
        Story fed = new Story().times(511, x -> x.feed(0, 0, 0, 0, 0));
        fed.due("the 512th feed", x -> x.feed(0, 0, 0, 0, 0), DriftStore.FULL);
    }

    /** Long programs, done again after each of many meetings, held against the plain model to the last call. */
    private static void longTalk() {
        DriftStore x = Check.storeWith(LONG);
        PlainModel plain = new PlainModel();
        for (int i = 0; i < LONG.length(); i += 20) {
            plain.feed(Check.five(LONG, i));
        }
        plain.end(LONG.length());
        plain.program();
        int calls = 2 + (LONG.length() + 19) / 20;
        for (int i = 0; calls < Story.MOST_CALLS; i++, calls++) {
            oneOfTheTalk(x, plain, i);
        }
    }

    private static void oneOfTheTalk(DriftStore x, PlainModel plain, int i) {
        int from = i % 5;
        int to = (i + 1 + i / 7 % 4) % 5;
        switch (i % 6) {
            case 0:
            case 1:
                Check.due("write", x.write(from, i % 8, 0), plain.write(from, i % 8, 0));
                break;
            case 2:
                Check.due("meet", x.meet(from, to, 7), plain.meet(from, to, 7));
                break;
            case 3:
                Check.due("cell", x.cell(to, 2, false), plain.cell(to, 2, false));
                break;
            case 4:
                Check.due("commit", x.commit(i % 3), plain.commit(i % 3));
                break;
            default:
                Check.due("outcome", x.outcome(to, i / 9), plain.outcome(to, i / 9));
                break;
        }
    }

    /** What later calls answer is free, but by the language's rules none of them throws. */
    private static void laterCallsThrowNothing() {
        DriftStore x = Check.storeWith(LONG);
        for (int i = 0; i < 3000; i++) {
            x.write(i % 5, i % 8, i);
            x.meet(i % 5, (i + 1 + i / 11 % 4) % 5, i % 90);
            x.commit(i % 4);
            x.forget(i % 5, i % 3);
            x.feed(i, i, i, i, i);
            x.read(i % 5, i % 8, i % 32, i % 2 == 0);
        }
        Check.holds("the later calls came to an end", true);
    }
}
