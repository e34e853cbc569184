import java.util.ArrayList;
import java.util.Comparator;
import java.util.List;
import java.util.Set;
import java.util.TreeSet;

/**
 * The document's words turned into the slowest code: every server keeps lists and sets of its own,
 * and every question is answered by doing all writes again from the first.
 */
final class PlainModel {
    private record Entry(int server, int stamp, PlainProgram program) {
    }

    private static final class Place {
        int clock = 0;
        int forgotten = 0;
        final List<Integer> committed = new ArrayList<>();
        final Set<Integer> known = new TreeSet<>();
    }

    private static final class Visitor {
        int bits = 0;
        int[] readVector = new int[5];
        int[] writeVector = new int[5];
    }

    private final StringBuilder tape = new StringBuilder();
    private final List<Entry> entries = new ArrayList<>();
    private final List<Place> places = new ArrayList<>();
    private final List<Visitor> visitors = new ArrayList<>();
    private PlainProgram latest = null;

    PlainModel() {
        for (int i = 0; i < 5; i++) {
            places.add(new Place());
        }
        for (int i = 0; i < 8; i++) {
            visitors.add(new Visitor());
        }
    }

    private static boolean in(int n, int size) {
        return n >= 0 && n < size;
    }

    int feed(int... fives) {
        if (tape.length() + 20 > 400) {
            return DriftStore.FULL;
        }
        for (int five : fives) {
            tape.append((char) (five >>> 24)).append((char) (five >> 16 & 255));
            tape.append((char) (five >> 8 & 255)).append((char) (five & 255));
        }
        return tape.length();
    }

    int end(int n) {
        if (!in(n, tape.length() + 1)) {
            return DriftStore.REFUSED;
        }
        tape.setLength(n);
        return n;
    }

    int program() {
        PlainProgram program = new PlainProgram(tape.toString());
        tape.setLength(0);
        int fault = program.fault();
        latest = fault == DriftStore.NONE ? program : latest;
        return fault;
    }

    private int[] vector(Place place) {
        int[] vector = new int[5];
        for (int w : place.known) {
            Entry entry = entries.get(w);
            vector[entry.server()] = Math.max(vector[entry.server()], entry.stamp());
        }
        return vector;
    }

    private static boolean atLeast(int[] vector, int[] other) {
        boolean all = true;
        for (int i = 0; i < 5; i++) {
            all &= vector[i] >= other[i];
        }
        return all;
    }

    int write(int server, int session, int time) {
        if (!in(server, 5) || !in(session, 8) || time < 0 || time > 1_000_000_000) {
            return DriftStore.REFUSED;
        }
        if (latest == null) {
            return DriftStore.NONE;
        }
        if (entries.size() == 500) {
            return DriftStore.FULL;
        }
        Place place = places.get(server);
        Visitor visitor = visitors.get(session);
        boolean less = (visitor.bits & 4) != 0 && !atLeast(vector(place), visitor.readVector);
        boolean apart = (visitor.bits & 8) != 0 && !atLeast(vector(place), visitor.writeVector);
        if (less || apart) {
            return DriftStore.DENIED;
        }
        place.clock = place.clock + 1 < time ? time : place.clock + 1;
        entries.add(new Entry(server, place.clock, latest));
        place.known.add(entries.size() - 1);
        visitor.writeVector[server] = place.clock;
        return entries.size() - 1;
    }

    long read(int server, int session, int cell, boolean committed) {
        if (!in(server, 5) || !in(session, 8) || !in(cell, 32)) {
            return Check.NO_CELL;
        }
        int[] vector = vector(places.get(server));
        Visitor visitor = visitors.get(session);
        boolean own = (visitor.bits & 1) != 0 && !atLeast(vector, visitor.writeVector);
        boolean less = (visitor.bits & 2) != 0 && !atLeast(vector, visitor.readVector);
        if (own || less) {
            return Check.DENIED_READ;
        }
        for (int i = 0; i < 5; i++) {
            visitor.readVector[i] = Math.max(visitor.readVector[i], vector[i]);
        }
        return cell(server, cell, committed);
    }

    int assure(int session, int bits, boolean fresh) {
        if (!in(session, 8) || !in(bits, 16)) {
            return DriftStore.REFUSED;
        }
        Visitor visitor = visitors.get(session);
        int before = visitor.bits;
        visitor.bits = bits;
        if (fresh) {
            visitor.readVector = new int[5];
            visitor.writeVector = new int[5];
        }
        return before;
    }

    private List<Integer> tentative(Place place) {
        List<Integer> others = new ArrayList<>(place.known);
        others.removeAll(place.committed);
        others.sort(Comparator.<Integer>comparingInt(w -> entries.get(w).stamp())
            .thenComparingInt(w -> entries.get(w).server()));
        return others;
    }

    private List<Integer> wholeOrder(Place place) {
        List<Integer> all = new ArrayList<>(place.committed);
        all.addAll(tentative(place));
        return all;
    }

    int commit(int n) {
        if (n < 0) {
            return DriftStore.REFUSED;
        }
        List<Integer> first = tentative(places.get(0));
        int many = Math.min(n, first.size());
        places.get(0).committed.addAll(first.subList(0, many));
        return many;
    }

    private void learn(Place place, int w, boolean committed) {
        place.known.add(w);
        place.clock = Math.max(place.clock, entries.get(w).stamp());
        if (committed && !place.committed.contains(w)) {
            place.committed.add(w);
        }
    }

    int meet(int from, int to, int n) {
        if (n < 0 || !in(from, 5) || !in(to, 5) || from == to) {
            return DriftStore.REFUSED;
        }
        Place giver = places.get(from);
        Place taker = places.get(to);
        List<Integer> gone = giver.committed.subList(0, giver.forgotten);
        // An item is the row of its writes.
        List<List<Integer>> items = new ArrayList<>();
        boolean first = !taker.committed.containsAll(gone);
        if (first) {
            items.add(gone);
        }
        for (int w : wholeOrder(giver)) {
            boolean committed = giver.committed.contains(w);
            boolean news = committed ? !taker.committed.contains(w) : !taker.known.contains(w);
            if (news && !gone.contains(w)) {
                items.add(List.of(w));
            }
        }
        int many = Math.min(n, items.size());
        for (List<Integer> item : items.subList(0, many)) {
            for (int w : item) {
                learn(taker, w, giver.committed.contains(w));
            }
        }
        if (first && many > 0) {
            taker.forgotten = giver.forgotten;
        }
        return many;
    }

    int forget(int server, int n) {
        if (!in(server, 5) || n < 0) {
            return DriftStore.REFUSED;
        }
        Place place = places.get(server);
        place.forgotten = (int) Math.min((long) place.forgotten + n, place.committed.size());
        return place.forgotten;
    }

    /** Does a row of writes from the beginning; answers the outcome of one of them. */
    private int perform(List<Integer> row, int[] cells, int asked) {
        int outcome = DriftStore.NONE;
        for (int w : row) {
            Entry entry = entries.get(w);
            int its = entry.program().perform(cells, entry.server(), entry.stamp());
            outcome = w == asked ? its : outcome;
        }
        return outcome;
    }

    long cell(int server, int c, boolean committed) {
        if (!in(server, 5) || !in(c, 32)) {
            return Check.NO_CELL;
        }
        Place place = places.get(server);
        int[] cells = new int[32];
        perform(committed ? place.committed : wholeOrder(place), cells, -1);
        return cells[c];
    }

    int order(int server, int k) {
        if (!in(server, 5)) {
            return DriftStore.REFUSED;
        }
        List<Integer> all = wholeOrder(places.get(server));
        return in(k, all.size()) ? all.get(k) : DriftStore.NONE;
    }

    int outcome(int server, int write) {
        if (!in(server, 5)) {
            return DriftStore.REFUSED;
        }
        if (!in(write, entries.size())) {
            return DriftStore.NONE;
        }
        return perform(wholeOrder(places.get(server)), new int[32], write);
    }

    int look(int write, int what) {
        if (!in(what, 3)) {
            return DriftStore.REFUSED;
        }
        if (!in(write, entries.size())) {
            return DriftStore.NONE;
        }
        Entry entry = entries.get(write);
        return what == 0 ? entry.server() : what == 1 ? entry.stamp() : places.get(0).committed.indexOf(write) + 1;
    }

    int stamp(int what, int of, int s) {
        if (!in(what, 3) || !in(of, what == 0 ? 5 : 8) || !in(s, 5)) {
            return DriftStore.REFUSED;
        }
        return what == 0 ? vector(places.get(of))[s]
            : what == 1 ? visitors.get(of).readVector[s] : visitors.get(of).writeVector[s];
    }

    int count(int server, int what) {
        if (!in(server, 5) || !in(what, 4)) {
            return DriftStore.REFUSED;
        }
        Place place = places.get(server);
        int[] counts = {place.known.size(), place.committed.size(), place.forgotten, place.clock};
        return counts[what];
    }

    int writes() {
        return entries.size();
    }
}
