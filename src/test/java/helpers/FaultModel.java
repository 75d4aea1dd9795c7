import java.util.ArrayDeque;
import java.util.Deque;

/** What take is due to answer for a text: a machine that goes from character to character, without recursion. */
final class FaultModel {
    private enum State { CLAIM, VARIABLE, SUM, PART, DIGIT, NUMBER, NAMED }

    private final String text;
    private State state = State.CLAIM;
    /** What is still to come behind the claim at hand: a claim (c), or the end of a quantifier over x, y or z. */
    private final Deque<Character> toCome = new ArrayDeque<>();
    private int claims = 0;
    private int brackets = 0;
    private boolean done = false;
    private boolean nested = false;
    private boolean xFree = false;
    private char relation = ' ';
    private boolean justOpened = false;
    private char digit = ' ';
    private int sign = 1;
    private int number = 0;
    private final int[] factors = new int[3];

    private FaultModel(String text) {
        this.text = text;
    }

    static int due(String text) {
        return new FaultModel(text).answer();
    }

    private int answer() {
        for (int i = 0; i < text.length(); i++) {
            char c = text.charAt(i);
            if (c != ' ' && !accepts(c)) {
                return -1 - i;
            }
        }
        return done && !(xFree && nested) ? brackets : -1 - text.length();
    }

    private boolean accepts(char c) {
        if (done) {
            return false;
        }
        switch (state) {
            case CLAIM: return startsClaim(c);
            case VARIABLE: return quantifies(c);
            case SUM:
                if (c == '-') {
                    sign = -1;
                    justOpened = false;
                    state = State.PART;
                    return true;
                }
                return startsPart(c);
            case PART: return startsPart(c);
            case DIGIT: return followsDigit(c);
            default: return followsPart(c);
        }
    }

    private boolean startsClaim(char c) {
        if (claims == 20 || "&/>!EA[".indexOf(c) < 0) {
            return false;
        }
        claims++;
        if (c == '[') {
            brackets++;
            relation = ' ';
            number = 0;
            java.util.Arrays.fill(factors, 0);
            openSum();
            justOpened = true;
            return brackets <= 8;
        }
        if (c == 'E' || c == 'A') {
            nested |= quantifiersOpen() > 0;
            state = State.VARIABLE;
            return quantifiersOpen() < 2;
        }
        if (c != '!') {
            toCome.push('c');
        }
        return true;
    }

    private int quantifiersOpen() {
        int open = 0;
        for (char c : toCome) {
            open += c == 'c' ? 0 : 1;
        }
        return open;
    }

    private boolean quantifies(char c) {
        toCome.push(c);
        state = State.CLAIM;
        return c >= 'x' && c <= 'z';
    }

    private void openSum() {
        state = State.SUM;
        sign = 1;
        justOpened = false;
    }

    private boolean startsPart(char c) {
        if (Character.isDigit(c)) {
            digit = c;
            state = State.DIGIT;
            return true;
        }
        justOpened = false;
        return names(c, 1);
    }

    private int side() {
        return relation == '<' || relation == '=' ? -1 : 1;
    }

    private boolean names(char c, int factor) {
        if (c < 'x' || c > 'z') {
            return false;
        }
        boolean bound = toCome.contains(c);
        if (!bound && c != 'x') {
            return false;
        }
        xFree |= !bound;
        factors[c - 'x'] += side() * sign * factor;
        state = State.NAMED;
        return true;
    }

    private boolean followsDigit(char c) {
        if (justOpened && c == ':' && (digit == '2' || digit == '3')) {
            relation = ':';
            openSum();
            return true;
        }
        justOpened = false;
        if (Character.isDigit(c)) {
            number += side() * sign * (10 * (digit - '0') + c - '0');
            state = State.NUMBER;
            return true;
        }
        if (c >= 'x' && c <= 'z') {
            return (digit == '1' || digit == '2') && names(c, digit - '0');
        }
        number += side() * sign * (digit - '0');
        return followsPart(c);
    }

    private boolean followsPart(char c) {
        if (c == '+' || c == '-') {
            sign = c == '+' ? 1 : -1;
            state = State.PART;
            return true;
        }
        if ((c == '<' || c == '=') && relation == ' ') {
            relation = c;
            openSum();
            return true;
        }
        return c == ']' && relation != ' ' && closes();
    }

    private boolean closes() {
        for (int factor : factors) {
            if (Math.abs(factor) > 2) {
                return false;
            }
        }
        while (!toCome.isEmpty() && toCome.peek() != 'c') {
            toCome.pop();
        }
        if (toCome.isEmpty()) {
            done = true;
        } else {
            toCome.pop();
        }
        state = State.CLAIM;
        return Math.abs(number) <= 15;
    }
}
