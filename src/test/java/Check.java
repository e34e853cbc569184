/** What the tests share: telling wrong answers, and feeding texts to the tape. */
final class Check {
    static final long NO_CELL = 1L << 40;
    static final long DENIED_READ = NO_CELL + 1;
    static final int HIGHEST = Integer.MAX_VALUE;
    static final int LOWEST = Integer.MIN_VALUE;

    private static int looked = 0;
    private static int wrong = 0;

    private Check() {
    }

    static void due(String what, long got, long want) {
        looked++;
        if (got != want) {
            wrong++;
            if (wrong <= 50) {
                System.out.println(what + ": answered " + got + ", due is " + want);
            }
        }
    }

    static void holds(String what, boolean held) {
        due(what, held ? 1 : 0, 1);
    }

    static void finish(String name) {
        System.out.println(name + ": " + looked + " answers looked at, " + wrong + " wrong");
        if (wrong != 0 || looked == 0) {
            System.exit(1);
        }
    }

    /** Brings a text to an empty tape; answers what the last call did. */
    static int feed(DriftStore x, String text) {
        for (int i = 0; i < text.length(); i += 20) {
            feedTwenty(x, text, i);
        }
        return x.end(text.length());
    }

    /** One call with the twenty bytes of the text from there on, zeros behind its last. */
    static int feedTwenty(DriftStore x, String text, int from) {
        int[] five = five(text, from);
        return x.feed(five[0], five[1], five[2], five[3], five[4]);
    }

    static int[] five(String text, int from) {
        int[] five = new int[5];
        for (int i = 0; i < 5; i++) {
            five[i] = four(text, from + 4 * i);
        }
        return five;
    }

    static int program(DriftStore x, String text) {
        due("feeding " + text, feed(x, text), text.length());
        return x.program();
    }

    static DriftStore storeWith(String text) {
        DriftStore x = new DriftStore();
        due("program " + text, program(x, text), DriftStore.NONE);
        return x;
    }

    /** Numbers that are not 0 to highest: the next ones on both sides, and far ones. */
    static int[] outside(int highest) {
        return new int[] {-1, highest + 1, LOWEST, HIGHEST, -highest - 1, highest + 257, 1 << 16};
    }

    private static int four(String text, int from) {
        int value = 0;
        for (int i = from; i < from + 4; i++) {
            value = value << 8 | (i < text.length() ? text.charAt(i) & 255 : 0);
        }
        return value;
    }
}
