/**
 * Claims about whole numbers with sums, order, divisors, and quantifiers over all of them.
 *
 * <p>A claim is kept only as the row of the numbers that satisfy it: no call asks for more, and a
 * short stretch of that row tells all of it (see Row).
 */
public final class LineClaims {
    private static final int FARTHEST = 1000;
    private static final int NONE_ABOVE = 1000000;
    private static final int NONE_BELOW = -1000000;
    private static final int LONGEST_COUNT = 100;

    /** Truth is told for BITS numbers at once: bit i of a WORD is the truth for the i-th of them. */
    private static final int BITS = 64;
    private static final long NOWHERE = 0L;
    private static final long EVERYWHERE = -1L;

    private final Text typed;
    private final Claims claims;
    private final Reader reader;
    private final Row row;
    private boolean xIsFree;

    public LineClaims() {
        typed = new Text();
        claims = new Claims();
        reader = new Reader(typed, claims);
        row = new Row();
        xIsFree = false;
    }

    public boolean type(int word, int n) {
        if (n < 1 || n > 4 || !typed.hasRoomFor(n)) {
            return false;
        }
        for (int i = 0; i < n; i++) {
            if (!Text.allows(byteOf(word, i))) {
                return false;
            }
        }
        for (int i = n - 1; i >= 0; i--) {
            typed.append(byteOf(word, i));
        }
        return true;
    }

    public int take() {
        boolean sound = reader.readWhole();
        int answer = sound ? reader.bracketsRead() : -1 - reader.faultPlace();
        typed.clear();
        if (sound) {
            xIsFree = claims.isOpen(0);
            row.fill(claims, xIsFree);
        }
        return answer;
    }

    public boolean free() {
        return xIsFree;
    }

    public boolean holds(int v) {
        return isNear(v) && row.has(v);
    }

    public boolean some() {
        return row.hasOne();
    }

    public boolean all() {
        return row.hasEach();
    }

    public int next(int v) {
        if (!isNear(v)) {
            return NONE_ABOVE;
        }
        int end = Math.max(v, Row.LAST) + Row.PERIOD;
        for (int w = v; w <= end; w++) {
            if (row.has(w)) {
                return w;
            }
        }
        return NONE_ABOVE;
    }

    public int last(int v) {
        if (!isNear(v)) {
            return NONE_BELOW;
        }
        int end = Math.min(v, Row.FIRST) - Row.PERIOD;
        for (int w = v; w >= end; w--) {
            if (row.has(w)) {
                return w;
            }
        }
        return NONE_BELOW;
    }

    public boolean again(boolean up) {
        for (int i = 0; i < Row.PERIOD; i++) {
            if (row.has(up ? Row.LAST - i : Row.FIRST + i)) {
                return true;
            }
        }
        return false;
    }

    public int count(int a, int b) {
        if (!isNear(a) || !isNear(b) || b < a - 1 || b >= a + LONGEST_COUNT) {
            return -1;
        }
        int found = 0;
        for (int v = a; v <= b; v++) {
            if (row.has(v)) {
                found++;
            }
        }
        return found;
    }

    public int period() {
        for (int p = 1; p < Row.PERIOD; p++) {
            if (row.repeatsAfter(p)) {
                return p;
            }
        }
        return Row.PERIOD;
    }

    private static boolean isNear(int v) {
        return v >= -FARTHEST && v <= FARTHEST;
    }

    private static int byteOf(int word, int i) {
        return (word >>> 8 * i) & 255;
    }

    /** What is typed. Spaces count for nothing, so only their room and the others' places are kept. */
    private static final class Text {
        static final int LIMIT = 120;
        static final int END = 0;

        private final int[] marks = new int[LIMIT];
        private final int[] places = new int[LIMIT];
        private int size = 0;
        private int length = 0;

        static boolean allows(int character) {
            return character >= 32 && character <= 126;
        }

        boolean hasRoomFor(int more) {
            return length + more <= LIMIT;
        }

        void append(int character) {
            if (length >= LIMIT) {
                return;
            }
            if (character != ' ') {
                marks[size] = character;
                places[size] = length;
                size++;
            }
            length++;
        }

        void clear() {
            size = 0;
            length = 0;
        }

        int markAt(int at) {
            return at >= 0 && at < size ? marks[at] : END;
        }

        int placeOf(int at) {
            return at >= 0 && at < size ? places[at] : length;
        }
    }

    /** Reads a text as a claim, from the left; stands still at the first mark that cannot be as it is. */
    private static final class Reader {
        private static final int MOST_BRACKETS = 8;
        private static final int DEEPEST_QUANTIFIER = 2;
        private static final int GREATEST_FACTOR = 2;
        private static final int GREATEST_NUMBER = 15;

        private final Text text;
        private final Claims claims;
        private int at = 0;
        private int brackets = 0;
        private boolean nested = false;

        Reader(Text text, Claims claims) {
            this.text = text;
            this.claims = claims;
        }

        boolean readWhole() {
            at = 0;
            brackets = 0;
            nested = false;
            claims.clear();
            if (!readClaim(0, 0) || mark() != Text.END) {
                return false;
            }
            claims.findOpen();
            return !(nested && claims.isOpen(0));
        }

        int bracketsRead() {
            return brackets;
        }

        int faultPlace() {
            return text.placeOf(at);
        }

        private int mark() {
            return text.markAt(at);
        }

        /** bound has a bit for each variable that a quantifier round this claim is over. */
        private boolean readClaim(int bound, int depth) {
            if (claims.isFull()) {
                return false;
            }
            switch (mark()) {
                case '[':
                    return readBracket(bound);
                case '!':
                    begin();
                    return readClaim(bound, depth);
                case '&':
                case '/':
                case '>':
                    return readPair(bound, depth);
                case 'E':
                case 'A':
                    return readQuantified(bound, depth);
                default:
                    return false;
            }
        }

        private int begin() {
            int claim = claims.add(mark());
            at++;
            return claim;
        }

        private boolean readPair(int bound, int depth) {
            int claim = begin();
            if (!readClaim(bound, depth)) {
                return false;
            }
            claims.putSecond(claim);
            return readClaim(bound, depth);
        }

        private boolean readQuantified(int bound, int depth) {
            if (depth >= DEEPEST_QUANTIFIER) {
                return false;
            }
            nested = nested || depth > 0;
            int claim = begin();
            int variable = variableOf(mark());
            if (variable < 0) {
                return false;
            }
            at++;
            claims.putVariable(claim, variable);
            return readClaim(bound | (1 << variable), depth + 1);
        }

        private boolean readBracket(int bound) {
            if (brackets >= MOST_BRACKETS) {
                return false;
            }
            brackets++;
            int claim = begin();
            boolean divides = isDivisor();
            if (divides) {
                claims.putDivisor(claim, mark() - '0');
                at++;
            } else if (!readSum(claim, bound, 1)) {
                return false;
            }
            int relation = mark();
            if (!divides && relation != '<' && relation != '=') {
                return false;
            }
            claims.putKind(claim, relation);
            at++;
            if (!readSum(claim, bound, divides ? 1 : -1) || mark() != ']') {
                return false;
            }
            if (!claims.isWithin(claim, GREATEST_FACTOR, GREATEST_NUMBER)) {
                return false;
            }
            at++;
            return true;
        }

        private boolean isDivisor() {
            return (mark() == '2' || mark() == '3') && text.markAt(at + 1) == ':';
        }

        private boolean readSum(int claim, int bound, int side) {
            int sign = side;
            if (mark() == '-') {
                sign = -side;
                at++;
            }
            for (int parts = 0; parts < Text.LIMIT; parts++) {
                if (!readPart(claim, bound, sign)) {
                    return false;
                }
                int mark = mark();
                if (mark != '+' && mark != '-') {
                    return true;
                }
                sign = mark == '+' ? side : -side;
                at++;
            }
            return false;
        }

        /** A digit 1 or 2 with a variable behind it is the variable's; any other digits are a number. */
        private boolean readPart(int claim, int bound, int sign) {
            int digit = digitOf(mark());
            int lower = -1;
            if (digit >= 0) {
                at++;
                lower = digitOf(mark());
            }
            if (lower >= 0) {
                at++;
                claims.addNumber(claim, sign * (10 * digit + lower));
                return true;
            }
            int variable = variableOf(mark());
            boolean isFactor = variable >= 0 && (digit == 1 || digit == 2);
            if (digit >= 0 && !isFactor) {
                claims.addNumber(claim, sign * digit);
                return true;
            }
            if (variable < 0 || (variable != Claims.X && ((bound >> variable) & 1) == 0)) {
                return false;
            }
            claims.addFactor(claim, variable, isFactor ? sign * digit : sign);
            at++;
            return true;
        }

        private static int digitOf(int mark) {
            return mark >= '0' && mark <= '9' ? mark - '0' : -1;
        }

        private static int variableOf(int mark) {
            return mark >= 'x' && mark <= 'z' ? mark - 'x' : -1;
        }
    }

    /**
     * A claim and all claims in it, each before its parts, so that the first part of a claim is the
     * one after it, and each way from a claim to its parts has an end.
     */
    private static final class Claims {
        static final int X = 0;

        private static final int LIMIT = 20;
        private static final int VARIABLES = 3;
        private static final long EACH_SECOND = 0x5555555555555555L;
        private static final long EACH_THIRD = 0x9249249249249249L;

        /*
         * Where an open quantifier looks: the variable from outside is then a number of Row's
         * stretch, at most 96 from 0, so that each order or equality in it turns at most
         * 2 * 96 + 15 = 207 from 0; beyond that all in it comes again after 6.
         */
        private static final int FAR_FIRST = -224;
        private static final int FAR_WORDS = 7;

        private final int[] kinds = new int[LIMIT];
        private final int[] seconds = new int[LIMIT];
        private final int[] variables = new int[LIMIT];
        private final int[] divisors = new int[LIMIT];
        private final int[] numbers = new int[LIMIT];
        private final int[] factors = new int[LIMIT * VARIABLES];
        /** For each claim a bit for each variable that stands in it and belongs to no quantifier in it. */
        private final int[] open = new int[LIMIT];
        /** The value of the variable from outside, while an open quantifier is looked at. */
        private final int[] values = new int[VARIABLES];
        private int size = 0;

        void clear() {
            size = 0;
        }

        boolean isFull() {
            return size >= LIMIT;
        }

        int add(int kind) {
            if (size >= LIMIT) {
                return -1;
            }
            int claim = size;
            size++;
            kinds[claim] = kind;
            seconds[claim] = LIMIT;
            variables[claim] = X;
            divisors[claim] = 0;
            numbers[claim] = 0;
            open[claim] = 0;
            for (int variable = 0; variable < VARIABLES; variable++) {
                factors[claim * VARIABLES + variable] = 0;
            }
            return claim;
        }

        void putKind(int claim, int kind) {
            if (has(claim)) {
                kinds[claim] = kind;
            }
        }

        /** The claim that is added after this call is the second part of the one given. */
        void putSecond(int claim) {
            if (has(claim)) {
                seconds[claim] = size;
            }
        }

        void putVariable(int claim, int variable) {
            if (has(claim)) {
                variables[claim] = variable;
            }
        }

        void putDivisor(int claim, int divisor) {
            if (has(claim)) {
                divisors[claim] = divisor;
            }
        }

        void addNumber(int claim, int number) {
            if (has(claim)) {
                numbers[claim] += number;
            }
        }

        void addFactor(int claim, int variable, int factor) {
            if (has(claim) && variable >= 0 && variable < VARIABLES) {
                factors[claim * VARIABLES + variable] += factor;
                open[claim] |= 1 << variable;
            }
        }

        boolean isWithin(int claim, int factorLimit, int numberLimit) {
            if (!has(claim)) {
                return false;
            }
            for (int variable = 0; variable < VARIABLES; variable++) {
                if (Math.abs(factors[claim * VARIABLES + variable]) > factorLimit) {
                    return false;
                }
            }
            return Math.abs(numbers[claim]) <= numberLimit;
        }

        boolean isOpen(int claim) {
            return has(claim) && open[claim] != 0;
        }

        /** From the last claim to the first, as parts come after what they are parts of. */
        void findOpen() {
            for (int claim = size - 1; claim >= 0; claim--) {
                switch (kinds[claim]) {
                    case '!':
                        open[claim] = openOf(claim + 1);
                        break;
                    case '&':
                    case '/':
                    case '>':
                        open[claim] = openOf(claim + 1) | openOf(seconds[claim]);
                        break;
                    case 'E':
                    case 'A':
                        open[claim] = openOf(claim + 1) & ~(1 << variables[claim]);
                        break;
                    default:
                        break;
                }
            }
        }

        private int openOf(int claim) {
            return has(claim) ? open[claim] : 0;
        }

        private boolean has(int claim) {
            return claim >= 0 && claim < size;
        }

        /** The truth of a claim for the numbers from start on as values of the variable over. */
        long word(int claim, int over, int start) {
            if (!has(claim)) {
                return NOWHERE;
            }
            switch (kinds[claim]) {
                case '!':
                    return ~word(claim + 1, over, start);
                case '&':
                case '/':
                case '>':
                    return pairWord(claim, over, start);
                case 'E':
                case 'A':
                    return quantifiedWord(claim, over, start);
                case '<':
                    return belowWord(factorOf(claim, over), sumAt(claim, over, start));
                case '=':
                    return equalWord(factorOf(claim, over), sumAt(claim, over, start));
                default:
                    return dividesWord(divisors[claim], factorOf(claim, over), sumAt(claim, over, start));
            }
        }

        /** Leaves out the second claim where the first one settles it, as it may be dear. */
        private long pairWord(int claim, int over, int start) {
            long first = word(claim + 1, over, start);
            if (kinds[claim] == '/') {
                return first == EVERYWHERE ? first : first | word(seconds[claim], over, start);
            }
            if (kinds[claim] == '>') {
                return first == NOWHERE ? EVERYWHERE : ~first | word(seconds[claim], over, start);
            }
            return first == NOWHERE ? first : first & word(seconds[claim], over, start);
        }

        /**
         * An open quantifier has no other one in it, and the only variable from outside in it is
         * over: two quantifiers in one another leave no variable free, and x alone may be free.
         */
        private long quantifiedWord(int claim, int over, int start) {
            if (!isOpen(claim)) {
                return isSo(claim, Row.FIRST, Row.WORDS) ? EVERYWHERE : NOWHERE;
            }
            if (over < 0 || over >= VARIABLES) {
                return NOWHERE;
            }
            long truth = NOWHERE;
            for (int i = 0; i < BITS; i++) {
                values[over] = start + i;
                if (isSo(claim, FAR_FIRST, FAR_WORDS)) {
                    truth |= 1L << i;
                }
            }
            return truth;
        }

        private boolean isSo(int claim, int first, int words) {
            boolean forEach = kinds[claim] == 'A';
            long undecided = forEach ? EVERYWHERE : NOWHERE;
            for (int k = 0; k < words; k++) {
                if (word(claim + 1, variables[claim], first + k * BITS) != undecided) {
                    return !forEach;
                }
            }
            return forEach;
        }

        private int factorOf(int claim, int variable) {
            int i = claim * VARIABLES + variable;
            return i >= 0 && i < factors.length ? factors[i] : 0;
        }

        /** What the sum (the left one less the right one) comes to if over is start. */
        private int sumAt(int claim, int over, int start) {
            int sum = numbers[claim];
            for (int variable = 0; variable < VARIABLES; variable++) {
                int value = variable == over ? start : values[variable];
                sum += factors[claim * VARIABLES + variable] * value;
            }
            return sum;
        }

        /** Where sum + factor * i is below 0. */
        private static long belowWord(int factor, int sum) {
            if (factor > 0) {
                return lowBits(-Math.floorDiv(sum, factor));
            }
            if (factor < 0) {
                return ~lowBits(Math.floorDiv(sum, -factor) + 1);
            }
            return sum < 0 ? EVERYWHERE : NOWHERE;
        }

        /** Where sum + factor * i is 0. */
        private static long equalWord(int factor, int sum) {
            if (factor == 0) {
                return sum == 0 ? EVERYWHERE : NOWHERE;
            }
            int i = -sum / factor;
            return i * factor == -sum && i >= 0 && i < BITS ? 1L << i : NOWHERE;
        }

        /** Where divisor divides sum + factor * i. */
        private static long dividesWord(int divisor, int factor, int sum) {
            if (divisor != 2 && divisor != 3) {
                return NOWHERE;
            }
            long truth = NOWHERE;
            for (int i = 0; i < divisor; i++) {
                if ((sum + factor * i) % divisor == 0) {
                    truth |= (divisor == 2 ? EACH_SECOND : EACH_THIRD) << i;
                }
            }
            return truth;
        }

        private static long lowBits(int n) {
            if (n <= 0) {
                return NOWHERE;
            }
            return n >= BITS ? EVERYWHERE : (1L << n) - 1;
        }
    }

    /**
     * The numbers that satisfy a claim, as the stretch FIRST .. LAST.
     *
     * <p>Why that is enough: a quantifier over w in a claim about v is got rid of by setting 2w to
     * what bounds it (2v, 4v or less, and at most 31 more or less) and 1 to 12 more, 12 being the
     * lcm of what then divides (2, 4, 6). An order or an equality with another bound (again 4v and
     * 30) then turns at most 31 + 12 + 30 = 73 from 0, and all else comes again after 12. So what is
     * so beyond 74 comes again after 12, and the stretch has a whole 12 beyond it at either end.
     */
    private static final class Row {
        static final int PERIOD = 12;
        static final int FIRST = -96;
        static final int WORDS = 3;
        static final int LAST = FIRST + WORDS * BITS - 1;

        private final long[] words = new long[WORDS];

        /** The claim of a new object, [0 < 1], is so for each number. */
        Row() {
            for (int k = 0; k < WORDS; k++) {
                words[k] = EVERYWHERE;
            }
        }

        void fill(Claims claims, boolean xIsFree) {
            for (int k = 0; k < WORDS; k++) {
                boolean same = k > 0 && !xIsFree;
                words[k] = same ? words[0] : claims.word(0, Claims.X, FIRST + k * BITS);
            }
        }

        boolean has(int v) {
            int i = alike(v) - FIRST;
            return ((words[i / BITS] >>> (i % BITS)) & 1L) != 0L;
        }

        /** The number of the stretch for which the claim is so just if it is for v. */
        private static int alike(int v) {
            if (v > LAST) {
                return LAST - Math.floorMod(LAST - v, PERIOD);
            }
            if (v < FIRST) {
                return FIRST + Math.floorMod(v - FIRST, PERIOD);
            }
            return v;
        }

        boolean hasOne() {
            for (int k = 0; k < WORDS; k++) {
                if (words[k] != NOWHERE) {
                    return true;
                }
            }
            return false;
        }

        boolean hasEach() {
            for (int k = 0; k < WORDS; k++) {
                if (words[k] != EVERYWHERE) {
                    return false;
                }
            }
            return true;
        }

        /** Whether far up each number is as the one p above it. */
        boolean repeatsAfter(int p) {
            for (int v = LAST; v < LAST + PERIOD; v++) {
                if (has(v) != has(v + p)) {
                    return false;
                }
            }
            return true;
        }
    }
}
