import java.util.Random;

/** Random runs of 512 calls, each answer held against the plain model's. The seeds are fixed. */
public final class ModelTest {
    private static final int RUNS = 600;
    private static final int CALLS = 512;
    private static final int TEXTS = 60000;
    private static final String[] BITS = {
        "if", "then", "else", "and", "server", "stamp", "c", "c1", "c 31", "c32", "0", "7", "2147483647",
        "2147483648", "=", "#", "<", ">", "+", "-", "*", ":=", ",", "(", ")", " ", ":", "x", "$",
        "cc", "serverc", "\u00ff"
    };

    private final Random random;
    private DriftStore real = new DriftStore();
    private PlainModel plain = new PlainModel();
    private int calls = 0;
    private String name;

    private ModelTest(long seed) {
        random = new Random(seed);
        name = "run " + seed;
    }

    public static void main(String[] args) {
        for (int i = 0; i < RUNS; i++) {
            new ModelTest(i).run();
        }
        new ModelTest(-1).texts();
        Check.finish("ModelTest");
    }

    private void due(String call, long got, long want) {
        calls++;
        Check.due(name + ", call " + calls + " " + call, got, want);
    }

    private void run() {
        // Some runs write much, some talk much, some are full of wrong arguments.
        int wild = random.nextInt(4) == 0 ? 8 : 60;
        int writing = 1 + random.nextInt(12);
        int meeting = 1 + random.nextInt(8);
        while (calls < CALLS) {
            int kind = random.nextInt(writing + meeting + 12);
            if (kind < writing) {
                oneWrite(wild);
            } else if (kind < writing + meeting) {
                oneMeeting(wild);
            } else {
                oneOther(kind - writing - meeting, wild);
            }
        }
    }

    /** Mostly 0 to size - 1. */
    private int pick(int size, int wild) {
        if (random.nextInt(wild) != 0) {
            return random.nextInt(Math.max(1, size));
        }
        int some = random.nextInt();
        int[] edges = {-1, size, size + 1, Check.HIGHEST, Check.LOWEST, -random.nextInt(100), some};
        return edges[random.nextInt(edges.length)];
    }

    private void oneWrite(int wild) {
        if (plain.writes() == 0 || random.nextInt(12) == 0) {
            oneProgram(someProgram());
        }
        int server = pick(5, wild);
        int session = pick(8, wild);
        int time = random.nextInt(3) == 0 ? pick(40 + calls, wild) : 0;
        time = random.nextInt(400) == 0 ? 1_000_000_000 + random.nextInt(2) : time;
        due("write(" + server + ", " + session + ", " + time + ")",
            real.write(server, session, time), plain.write(server, session, time));
    }

    private void oneMeeting(int wild) {
        int from = pick(5, wild);
        int to = random.nextInt(30) == 0 ? pick(5, wild) : random.nextInt(5);
        int n = random.nextInt(3) == 0 ? 999 : pick(12, wild);
        due("meet(" + from + ", " + to + ", " + n + ")", real.meet(from, to, n), plain.meet(from, to, n));
    }

    private void oneOther(int kind, int wild) {
        int server = pick(5, wild);
        int session = pick(8, wild);
        int cell = random.nextInt(3) == 0 ? pick(32, wild) : pick(4, wild);
        int write = pick(plain.writes(), wild);
        boolean yes = random.nextBoolean();
        switch (kind) {
            case 0:
                int bits = pick(16, wild);
                due("assure(" + session + ", " + bits + ", " + yes + ")",
                    real.assure(session, bits, yes), plain.assure(session, bits, yes));
                break;
            case 1:
            case 2:
                due("read(" + server + ", " + session + ", " + cell + ", " + yes + ")",
                    real.read(server, session, cell, yes), plain.read(server, session, cell, yes));
                break;
            case 3:
                int n = pick(8, wild);
                due("commit(" + n + ")", real.commit(n), plain.commit(n));
                break;
            case 4:
                int more = random.nextInt(2) == 0 ? 0 : pick(5, wild);
                due("forget(" + server + ", " + more + ")", real.forget(server, more), plain.forget(server, more));
                break;
            case 5:
            case 6:
                due("cell(" + server + ", " + cell + ", " + yes + ")",
                    real.cell(server, cell, yes), plain.cell(server, cell, yes));
                break;
            case 7:
                due("order(" + server + ", " + write + ")", real.order(server, write), plain.order(server, write));
                break;
            case 8:
                due("outcome(" + server + ", " + write + ")",
                    real.outcome(server, write), plain.outcome(server, write));
                break;
            case 9:
                int what = pick(3, wild);
                due("look(" + write + ", " + what + ")", real.look(write, what), plain.look(write, what));
                break;
            case 10:
                int which = pick(3, wild);
                int s = pick(5, wild);
                due("stamp(" + which + ", " + session + ", " + s + ")",
                    real.stamp(which, session, s), plain.stamp(which, session, s));
                break;
            default:
                int counted = pick(4, wild);
                due("count(" + server + ", " + counted + ")",
                    real.count(server, counted), plain.count(server, counted));
                due("writes()", real.writes(), plain.writes());
                break;
        }
    }

    private void oneProgram(String text) {
        for (int i = 0; i < text.length(); i += 20) {
            int[] five = new int[5];
            for (int j = 0; j < 20; j++) {
                int b = i + j < text.length() ? text.charAt(i + j) : random.nextInt(256);
                five[j / 4] = five[j / 4] << 8 | b;
            }
            due("feed of '" + text + "'", real.feed(five[0], five[1], five[2], five[3], five[4]), plain.feed(five));
        }
        int end = random.nextInt(20) == 0 ? pick(text.length() + 30, 3) : text.length();
        due("end(" + end + ")", real.end(end), plain.end(end));
        due("program() of '" + text + "'", real.program(), plain.program());
    }

    private String someProgram() {
        String text = "";
        do {
            text = rules(1 + random.nextInt(3), 1 + random.nextInt(3));
        } while (text.length() > 160);
        return random.nextInt(10) == 0 ? spoiled(text) : text;
    }

    private String spoiled(String text) {
        int from = random.nextInt(text.length() + 1);
        int to = Math.min(text.length(), from + random.nextInt(3));
        return text.substring(0, from) + BITS[random.nextInt(BITS.length)] + text.substring(to);
    }

    private String blank() {
        return random.nextInt(3) == 0 ? "  ".substring(random.nextInt(2)) : "";
    }

    private String rules(int most, int effects) {
        StringBuilder out = new StringBuilder();
        for (int i = 0; i < most; i++) {
            out.append(i == 0 ? "" : " else ").append(rule(effects));
        }
        return out.toString();
    }

    private String rule(int effects) {
        StringBuilder out = new StringBuilder();
        if (random.nextInt(4) != 0) {
            out.append("if ");
            do {
                out.append(sum(0, 2)).append(blank()).append("=#<>".charAt(random.nextInt(4)));
                out.append(blank()).append(sum(0, 2));
            } while (random.nextInt(4) == 0 && out.append(" and ") != null);
            out.append(" then ");
        }
        for (int i = 0; i < effects; i++) {
            out.append(i == 0 ? "" : ",").append(blank()).append(cell()).append(blank());
            out.append(":=").append(blank()).append(sum(0, 3));
        }
        return out.toString();
    }

    private String cell() {
        int n = random.nextInt(8) == 0 ? random.nextInt(32) : random.nextInt(4);
        return "c" + blank() + n;
    }

    private String sum(int depth, int most) {
        StringBuilder out = new StringBuilder(part(depth));
        int more = random.nextInt(most);
        for (int i = 0; i < more; i++) {
            out.append(blank()).append("+-*".charAt(random.nextInt(3))).append(blank()).append(part(depth));
        }
        return out.toString();
    }

    private String part(int depth) {
        switch (random.nextInt(7)) {
            case 0:
                return "server";
            case 1:
                return "stamp";
            case 2:
                return random.nextInt(10) == 0 ? "2147483647" : "" + random.nextInt(20);
            case 3:
                return depth < 6 ? "(" + sum(depth + 1, 3) + ")" : "1";
            default:
                return cell();
        }
    }

    /** Programs alone: long ones near the limits, spoiled ones, and tokens in any order. */
    private void texts() {
        name = "texts";
        for (int i = 0; i < TEXTS; i++) {
            String text = someText(random.nextInt(4));
            if (text.length() > 400) {
                text = text.substring(0, 400);
            }
            real = new DriftStore();
            plain = new PlainModel();
            oneProgram(text);
            int server = random.nextInt(5);
            for (int w = 0; w < 3; w++) {
                due("write", real.write(server, 0, 0), plain.write(server, 0, 0));
                due("outcome of '" + text + "'", real.outcome(server, w), plain.outcome(server, w));
            }
            for (int c = 0; c < 4; c++) {
                due("cell of '" + text + "'", real.cell(server, c, false), plain.cell(server, c, false));
            }
        }
    }

    private String someText(int kind) {
        switch (kind) {
            case 0:
                return rules(1 + random.nextInt(7), 1 + random.nextInt(9));
            case 1:
                return spoiled(rules(1 + random.nextInt(3), 1 + random.nextInt(3)));
            case 2:
                return spoiled(manyParts(76 + random.nextInt(6)));
            default:
                StringBuilder out = new StringBuilder(random.nextBoolean() ? "c1:=" : "if c1 ");
                int many = random.nextInt(25);
                for (int i = 0; i < many; i++) {
                    out.append(BITS[random.nextInt(25)]).append(" ");
                }
                return out.toString();
        }
    }

    private String manyParts(int parts) {
        StringBuilder out = new StringBuilder("c1:=1");
        for (int i = 1; i < parts; i++) {
            int where = random.nextInt(20);
            out.append(where == 0 ? ",c2:=" : where == 1 ? " else c3:=" : "+-*".charAt(random.nextInt(3)));
            out.append(random.nextInt(9) == 0 ? "(c1)" : "" + random.nextInt(10));
        }
        return out.toString();
    }
}
