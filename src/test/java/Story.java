import java.util.ArrayList;
import java.util.LinkedHashMap;
import java.util.List;
import java.util.Map;

/**
 * Calls that are told again on a new object for every question, so that looking at everything costs
 * none of the 512 calls for which an object is promised. A story never changes: what adds to it makes
 * a longer one.
 */
final class Story {
    static final int MOST_CALLS = 512;

    interface Call {
        long on(DriftStore x);
    }

    private record Question(String name, Call call) {
    }

    private final List<Call> calls = new ArrayList<>();
    private Map<String, Long> everything = null;

    Story then(Call... more) {
        Story longer = new Story();
        longer.calls.addAll(calls);
        longer.calls.addAll(List.of(more));
        return longer;
    }

    Story times(int n, Call call) {
        Story longer = then();
        for (int i = 0; i < n; i++) {
            longer.calls.add(call);
        }
        return longer;
    }

    Story first(int n) {
        Story shorter = new Story();
        shorter.calls.addAll(calls.subList(0, n));
        return shorter;
    }

    /** The same with looks behind each call. */
    Story watched(Call... looks) {
        Story longer = new Story();
        for (Call call : calls) {
            longer.calls.add(call);
            longer.calls.addAll(List.of(looks));
        }
        return longer;
    }

    /** Brings a text to the tape, which must be empty. */
    Story fed(String text) {
        Story longer = then();
        for (int i = 0; i < text.length(); i += 20) {
            int from = i;
            longer.calls.add(x -> Check.feedTwenty(x, text, from));
        }
        return longer.then(x -> x.end(text.length()));
    }

    Story program(String text) {
        Story read = fed(text);
        read.due("program " + text, x -> x.program(), DriftStore.NONE);
        return read.then(x -> x.program());
    }

    int size() {
        return calls.size();
    }

    long ask(Call call) {
        return call.on(told(1));
    }

    void due(String what, Call call, long want) {
        Check.due(what, ask(call), want);
    }

    /** The call answers that, and all that can be seen stays as it was. */
    void refuses(String what, Call call, long want) {
        due(what, call, want);
        changesNothing(what, call);
    }

    void changesNothing(String what, Call call) {
        sameAs(what, then(call));
    }

    void sameAs(String what, Story other) {
        Map<String, Long> there = other.seen();
        seen().forEach((name, here) -> Check.due(what + " leaves " + name, there.get(name), here));
        Check.due(what + " leaves as much to see", there.size(), seen().size());
    }

    private DriftStore told(int more) {
        if (calls.size() + more > MOST_CALLS) {
            throw new IllegalStateException("a test makes more than 512 calls on one object");
        }
        DriftStore x = new DriftStore();
        for (Call call : calls) {
            call.on(x);
        }
        return x;
    }

    /** All that the face can tell after the story. */
    private Map<String, Long> seen() {
        if (everything == null) {
            everything = new LinkedHashMap<>();
            askAll("", questions((int) ask(x -> x.writes())), everything);
            askAll("", assurances(), everything);
            everything.put("the tape's length", (long) tapeLength());
            Story writes = then(x -> x.assure(7, 0, true), x -> x.write(4, 7, 0));
            writes.askAll("what the program makes, ", cells(4), everything);
            everything.put("what the tape is read as", ask(x -> x.program()));
            Story reads = then(x -> x.program(), x -> x.assure(7, 0, true), x -> x.write(4, 7, 0));
            reads.askAll("what the tape makes, ", cells(4), everything);
        }
        return everything;
    }

    private void askAll(String what, List<Question> questions, Map<String, Long> answers) {
        DriftStore x = null;
        int left = 0;
        for (Question question : questions) {
            if (left == 0) {
                x = told(1);
                left = MOST_CALLS - calls.size();
            }
            answers.put(what + question.name(), question.call().on(x));
            left--;
        }
    }

    private static List<Question> questions(int writes) {
        List<Question> all = new ArrayList<>();
        all.add(new Question("writes", x -> x.writes()));
        for (int i = 0; i < 5; i++) {
            int server = i;
            all.addAll(cells(server));
            all.addAll(stamps(0, server));
            for (int j = 0; j < 4; j++) {
                int what = j;
                all.add(new Question("count " + what + " of " + server, x -> x.count(server, what)));
            }
            for (int j = 0; j <= writes; j++) {
                int write = j;
                all.add(new Question("order " + write + " of " + server, x -> x.order(server, write)));
                all.add(new Question("outcome " + write + " of " + server, x -> x.outcome(server, write)));
            }
        }
        for (int session = 0; session < 8; session++) {
            all.addAll(stamps(1, session));
            all.addAll(stamps(2, session));
        }
        for (int i = 0; i <= 3 * writes; i++) {
            int look = i;
            all.add(new Question("look " + look, x -> x.look(look / 3, look % 3)));
        }
        return all;
    }

    private static List<Question> cells(int server) {
        List<Question> all = new ArrayList<>();
        for (int i = 0; i < 32; i++) {
            int cell = i;
            all.add(new Question("cell " + cell + " of " + server, x -> x.cell(server, cell, false)));
            all.add(new Question("committed cell " + cell + " of " + server, x -> x.cell(server, cell, true)));
        }
        return all;
    }

    private static List<Question> stamps(int what, int of) {
        List<Question> all = new ArrayList<>();
        for (int i = 0; i < 5; i++) {
            int s = i;
            all.add(new Question("stamp " + what + " of " + of + ", " + s, x -> x.stamp(what, of, s)));
        }
        return all;
    }

    private static List<Question> assurances() {
        List<Question> all = new ArrayList<>();
        for (int i = 0; i < 8; i++) {
            int session = i;
            all.add(new Question("assurances of " + session, x -> x.assure(session, 0, false)));
        }
        return all;
    }

    /** The greatest n to which it can be cut; each try is on a new object, because it cuts. */
    int tapeLength() {
        int low = 0;
        int high = 401;
        while (high - low > 1) {
            int n = (low + high) / 2;
            if (ask(x -> x.end(n)) == n) {
                low = n;
            } else {
                high = n;
            }
        }
        return low;
    }
}
