import java.util.ArrayList;
import java.util.List;

/**
 * A claim as a tree that tells its text and, number by number, whether it is so: a slow model of
 * what the document says, without words of bits and without a stretch that comes again.
 */
final class Model {
    /** How far the model looks for the value of a quantifier's variable if another quantifier is in it. */
    private static final int REACH = 110;
    private static final int LCM = 6;

    final char kind;
    Model first;
    Model second;
    int variable;
    int divisor;
    int number;
    final int[] factors = new int[3];
    String sums;

    Model(char kind) {
        this.kind = kind;
    }

    boolean isBracket() {
        return kind == '<' || kind == '=' || kind == ':';
    }

    boolean isQuantifier() {
        return kind == 'E' || kind == 'A';
    }

    boolean hasQuantifier() {
        return isQuantifier()
            || first != null && first.hasQuantifier()
            || second != null && second.hasQuantifier();
    }

    int brackets() {
        return isBracket() ? 1 : first.brackets() + (second == null ? 0 : second.brackets());
    }

    boolean mentionsFree(int wanted) {
        if (isBracket()) {
            return sums.indexOf((char) ('x' + wanted)) >= 0;
        }
        if (isQuantifier() && variable == wanted) {
            return false;
        }
        return first.mentionsFree(wanted) || second != null && second.mentionsFree(wanted);
    }

    String text() {
        if (isBracket()) {
            return "[" + sums + "]";
        }
        String own = kind + (isQuantifier() ? String.valueOf((char) ('x' + variable)) : "");
        return own + first.text() + (second == null ? "" : second.text());
    }

    boolean isSo(int[] values) {
        switch (kind) {
            case '!': return !first.isSo(values);
            case '&': return first.isSo(values) && second.isSo(values);
            case '/': return first.isSo(values) || second.isSo(values);
            case '>': return !first.isSo(values) || second.isSo(values);
            case 'E': return isFound(values, true);
            case 'A': return !isFound(values, false);
            case '<': return sum(values) < 0;
            case '=': return sum(values) == 0;
            default: return Math.floorMod(sum(values), divisor) == 0;
        }
    }

    private int sum(int[] values) {
        int sum = number;
        for (int i = 0; i < 3; i++) {
            sum += factors[i] * values[i];
        }
        return sum;
    }

    /** Whether for some value of the variable the claim behind the quantifier is as wanted. */
    private boolean isFound(int[] values, boolean wanted) {
        int kept = values[variable];
        boolean found = false;
        if (first.hasQuantifier()) {
            for (int v = -REACH; v <= REACH && !found; v++) {
                values[variable] = v;
                found = first.isSo(values) == wanted;
            }
        } else {
            List<Integer> turns = new ArrayList<>();
            turns.add(0);
            first.addTurns(variable, values, turns);
            for (int t = 0; t < turns.size() && !found; t++) {
                for (int step = -LCM - 1; step <= LCM + 1 && !found; step++) {
                    values[variable] = turns.get(t) + step;
                    found = first.isSo(values) == wanted;
                }
            }
        }
        values[variable] = kept;
        return found;
    }

    /** Between the numbers where an order or an equality turns, only divisors count, and they come again after 6. */
    private void addTurns(int over, int[] values, List<Integer> turns) {
        if (isBracket()) {
            if (kind != ':' && factors[over] != 0) {
                turns.add(Math.floorDiv(factors[over] * values[over] - sum(values), factors[over]));
            }
            return;
        }
        first.addTurns(over, values, turns);
        if (second != null) {
            second.addTurns(over, values, turns);
        }
    }
}
