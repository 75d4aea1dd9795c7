/** Draws claims that are not faulty, as models. */
final class Drawing {
    private static final String NO_VARIABLE = "";
    private static final int LONGEST = 120;

    private final Draw draw;
    private int bracketsLeft;
    private int claimsLeft;

    Drawing(Draw draw) {
        this.draw = draw;
    }

    /** A claim in which x may be free and no quantifier is in another one. */
    Model open() {
        return claim("x", 1, draw.between(1, 8), 20);
    }

    /** A claim in which no variable is free and quantifiers are at most two in one another. */
    Model closed() {
        return claim(NO_VARIABLE, 2, draw.between(1, 8), 20);
    }

    private Model claim(String variables, int depth, int brackets, int claims) {
        Model claim;
        do {
            bracketsLeft = brackets;
            claimsLeft = claims;
            claim = part(variables, depth, brackets);
        } while (claim.text().length() > LONGEST);
        return claim;
    }

    /** A claim with just so many claims in [ ], so that the limits are kept to. */
    private Model part(String variables, int depth, int brackets) {
        boolean spare = claimsLeft > 2 * bracketsLeft + 1;
        boolean wantsVariable = variables.isEmpty() && !draw.oneIn(4);
        if (depth > 0 && spare && (wantsVariable || draw.oneIn(4))) {
            return quantified(variables, depth, brackets);
        }
        if (spare && draw.oneIn(6)) {
            claimsLeft--;
            Model not = new Model('!');
            not.first = part(variables, depth, brackets);
            return not;
        }
        if (brackets == 1) {
            claimsLeft--;
            bracketsLeft--;
            return bracket(variables);
        }
        claimsLeft--;
        Model pair = new Model(draw.of("&&&//>"));
        int left = draw.between(1, brackets - 1);
        pair.first = part(variables, depth, left);
        pair.second = part(variables, depth, brackets - left);
        return pair;
    }

    private Model quantified(String variables, int depth, int brackets) {
        claimsLeft--;
        Model quantified = new Model(draw.of("EEA"));
        quantified.variable = draw.below(3);
        char name = (char) ('x' + quantified.variable);
        String inside = variables.indexOf(name) >= 0 ? variables : variables + name;
        quantified.first = part(inside, depth - 1, brackets);
        return quantified;
    }

    private Model bracket(String variables) {
        Model bracket = new Model(draw.of("<<=::"));
        int[] left = new int[4];
        int[] right = new int[4];
        for (int i = 0; i < variables.length(); i++) {
            int variable = variables.charAt(i) - 'x';
            int factor = draw.between(-2, 2);
            int moved = bracket.kind == ':' ? 0 : draw.between(-1, 1);
            left[variable] = factor + moved;
            right[variable] = moved;
            bracket.factors[variable] = factor;
        }
        int number = draw.oneIn(3) ? draw.between(-15, 15) : draw.between(-4, 4);
        int moved = bracket.kind == ':' ? 0 : draw.between(0, 12);
        left[3] = number + moved;
        right[3] = moved;
        bracket.number = number;
        bracket.divisor = draw.between(2, 3);
        String relation = bracket.kind == ':' ? bracket.divisor + ":" : "";
        bracket.sums = bracket.kind == ':' ? relation + sum(left) : sum(left) + bracket.kind + sum(right);
        return bracket;
    }

    /** A sum with factors for x, y, z and a number, each as one part or, beyond 2, as two. */
    private String sum(int[] parts) {
        StringBuilder sum = new StringBuilder();
        for (int i = 0; i < 3; i++) {
            int size = Math.abs(parts[i]);
            for (int done = 0; done < size; ) {
                int now = size - done >= 2 && !draw.oneIn(8) ? 2 : 1;
                String factor = now == 2 ? "2" : draw.oneIn(4) ? "1" : "";
                addPart(sum, parts[i] < 0, factor + (char) ('x' + i));
                done += now;
            }
        }
        if (parts[3] != 0 || sum.length() == 0) {
            String zero = Math.abs(parts[3]) < 10 && draw.oneIn(6) ? "0" : "";
            addPart(sum, parts[3] < 0, zero + Math.abs(parts[3]));
        }
        return sum.toString();
    }

    private static void addPart(StringBuilder sum, boolean negative, String part) {
        if (negative) {
            sum.append('-');
        } else if (sum.length() > 0) {
            sum.append('+');
        }
        sum.append(part);
    }
}
