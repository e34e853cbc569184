import java.util.ArrayList;
import java.util.List;
import java.util.regex.Matcher;
import java.util.regex.Pattern;

/**
 * A second reading of the document's programs, made another way than DriftStore's: faults by a
 * table of what may follow what, and doing straight from the tokens.
 */
final class PlainProgram {
    private static final Pattern TOKEN = Pattern.compile("([a-z]+)|([0-9]+)|(:=|[=#<>+\\-*,()])");
    private static final List<String> WORDS = List.of("if", "then", "else", "and", "server", "stamp", "c");

    private enum Awaited { RULE, EFFECT, TARGET, BECOMES, PART, CELL, MORE }

    private final String text;
    private final List<String> tokens = new ArrayList<>();
    private final List<Integer> places = new ArrayList<>();

    private Awaited awaited = Awaited.RULE;
    private boolean inTest = false;
    private boolean rightSide = false;
    private int depth = 0;
    private int rules = 0;
    private int effects = 0;
    private int parts = 0;

    private int at;
    private int[] cells;
    private int server;
    private int stamp;

    PlainProgram(String text) {
        this.text = text;
        tokenise();
    }

    private void tokenise() {
        Matcher matcher = TOKEN.matcher(text);
        int from = 0;
        while (from < text.length()) {
            if (text.charAt(from) == ' ') {
                from++;
                continue;
            }
            places.add(from);
            boolean one = matcher.region(from, text.length()).lookingAt() && isToken(matcher);
            tokens.add(one ? matcher.group() : "?");
            if (!one) {
                return;
            }
            from = matcher.end();
        }
        tokens.add("");
        places.add(text.length());
    }

    private static boolean isToken(Matcher matcher) {
        if (matcher.group(1) != null) {
            return WORDS.contains(matcher.group(1));
        }
        return matcher.group(2) == null
            || new java.math.BigInteger(matcher.group(2)).bitLength() <= 31;
    }

    int fault() {
        for (int i = 0; i < tokens.size(); i++) {
            if (!takes(tokens.get(i))) {
                return places.get(i);
            }
        }
        return DriftStore.NONE;
    }

    private boolean takes(String token) {
        switch (awaited) {
            case RULE:
                if (rules == 6) {
                    return false;
                }
                rules++;
                effects = 0;
                if (token.equals("if")) {
                    inTest = true;
                    rightSide = false;
                    awaited = Awaited.PART;
                    return true;
                }
                return takesEffect(token);
            case EFFECT:
                return takesEffect(token);
            case TARGET:
                awaited = Awaited.BECOMES;
                return isCellNumber(token);
            case BECOMES:
                awaited = Awaited.PART;
                return token.equals(":=");
            case PART:
                return takesPart(token);
            case CELL:
                awaited = Awaited.MORE;
                return isCellNumber(token);
            default:
                return takesMore(token);
        }
    }

    private boolean takesEffect(String token) {
        effects++;
        awaited = Awaited.TARGET;
        return effects <= 8 && token.equals("c");
    }

    private static boolean isCellNumber(String token) {
        return isNumber(token) && Integer.parseInt(token) <= 31;
    }

    private static boolean isNumber(String token) {
        return !token.isEmpty() && Character.isDigit(token.charAt(0));
    }

    private boolean takesPart(String token) {
        if (token.equals("(")) {
            depth++;
            return depth <= 6;
        }
        parts++;
        awaited = token.equals("c") ? Awaited.CELL : Awaited.MORE;
        return parts <= 80
            && (token.equals("c") || token.equals("server") || token.equals("stamp") || isNumber(token));
    }

    private boolean takesMore(String token) {
        if (token.equals("+") || token.equals("-") || token.equals("*")) {
            awaited = Awaited.PART;
            return true;
        }
        if (depth > 0) {
            depth--;
            return token.equals(")");
        }
        if (!inTest) {
            awaited = token.equals(",") ? Awaited.EFFECT : Awaited.RULE;
            return token.isEmpty() || token.equals(",") || token.equals("else");
        }
        if (!rightSide) {
            rightSide = true;
            awaited = Awaited.PART;
            return token.length() == 1 && "=#<>".contains(token);
        }
        rightSide = false;
        inTest = token.equals("and");
        awaited = inTest ? Awaited.PART : Awaited.EFFECT;
        return token.equals("and") || token.equals("then");
    }

    /** Changes the row of cells; answers the outcome. */
    int perform(int[] row, int itsServer, int itsStamp) {
        at = 0;
        cells = row.clone();
        server = itsServer;
        stamp = itsStamp;
        int rule = 0;
        do {
            rule++;
            boolean holds = !skip("if") || test();
            List<int[]> changes = new ArrayList<>();
            do {
                at++;
                int target = Integer.parseInt(tokens.get(at++));
                at++;
                changes.add(new int[] {target, sum()});
            } while (skip(","));
            if (holds) {
                changes.forEach(change -> row[change[0]] = change[1]);
                return rule;
            }
        } while (skip("else"));
        return 0;
    }

    private boolean test() {
        boolean all = true;
        do {
            int left = sum();
            String sign = tokens.get(at++);
            int right = sum();
            boolean holds = sign.equals("=") ? left == right
                : sign.equals("#") ? left != right
                : sign.equals("<") ? left < right : left > right;
            all = all && holds;
        } while (skip("and"));
        at++;
        return all;
    }

    private int sum() {
        int value = term();
        while (tokens.get(at).equals("+") || tokens.get(at).equals("-")) {
            value = tokens.get(at++).equals("+") ? value + term() : value - term();
        }
        return value;
    }

    private int term() {
        int value = part();
        while (skip("*")) {
            value *= part();
        }
        return value;
    }

    private int part() {
        String token = tokens.get(at++);
        switch (token) {
            case "(":
                int value = sum();
                at++;
                return value;
            case "c":
                return cells[Integer.parseInt(tokens.get(at++))];
            case "server":
                return server;
            case "stamp":
                return stamp;
            default:
                return Integer.parseInt(token);
        }
    }

    private boolean skip(String token) {
        boolean there = tokens.get(at).equals(token);
        at += there ? 1 : 0;
        return there;
    }
}
