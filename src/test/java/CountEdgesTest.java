/** The edges of count: -1000 and 1000 for either number, and a - 1 .. a + 99 for b. */
public final class CountEdgesTest {
    private static final int EDGE = 1000;
    private static final int[] STARTS = {
        Integer.MIN_VALUE, Integer.MIN_VALUE + 1, -EDGE - 101, -EDGE - 100, -EDGE - 99, -EDGE - 2, -EDGE - 1, -EDGE, 1 - EDGE,
        -100, -99, -1, 0, 1, 99, 100, EDGE - 101, EDGE - 100, EDGE - 99, EDGE - 98, EDGE - 1, EDGE, EDGE + 1, EDGE + 2,
        Integer.MAX_VALUE - 99, Integer.MAX_VALUE - 1, Integer.MAX_VALUE};
    private static final int[] STEPS = {Integer.MIN_VALUE, -EDGE, -100, -3, -2, -1, 0, 1, 2, 50, 97, 98, 99, 100, 101, 102, 2 * EDGE};

    private final Due check = new Due();

    public static void main(String[] args) {
        CountEdgesTest test = new CountEdgesTest();
        test.edges();
        test.extremes();
        test.noneAtAll();
        test.bothEndsCount();
        test.check.end();
    }

    private static boolean isNear(long v) {
        return v >= -EDGE && v <= EDGE;
    }

    /** Numbers that three divides, from a to b, one by one; -1 where the document says so. */
    private static int thirds(long a, long b) {
        if (!isNear(a) || !isNear(b) || b < a - 1 || b > a + 99) {
            return -1;
        }
        int found = 0;
        for (long v = a; v <= b; v++) {
            found += v % 3 == 0 ? 1 : 0;
        }
        return found;
    }

    private void edges() {
        check.about("-1, refused, if one of them is not -1000 .. 1000, or b is not a - 1 .. a + 99");
        LineClaims claims = check.with("[3:x]");
        for (int a : STARTS) {
            for (int step : STEPS) {
                int b = a + step;
                check.due("count(" + a + ", " + b + ")", claims.count(a, b), thirds(a, b));
            }
        }
    }

    /** Where a - 1 or a + 99 is no int any more. */
    private void extremes() {
        check.about("b is not a - 1 .. a + 99, whatever ints they are");
        LineClaims claims = check.with("[0<1]");
        for (int a : STARTS) {
            for (int b : STARTS) {
                int due = thirds(a, b) < 0 ? -1 : b - a + 1;
                check.due("count(" + a + ", " + b + ")", claims.count(a, b), due);
            }
        }
    }

    private void noneAtAll() {
        check.about("from a to a - 1 there are none");
        LineClaims claims = check.with("[0<1]");
        check.due("count(5, 4)", claims.count(5, 4), 0);
        check.due("count(5, 3)", claims.count(5, 3), -1);
        check.due("count(1000, 999)", claims.count(EDGE, EDGE - 1), 0);
        check.due("count(1001, 1000)", claims.count(EDGE + 1, EDGE), -1);
        check.due("count(-999, -1000)", claims.count(1 - EDGE, -EDGE), 0);
        check.due("count(-1000, -1001)", claims.count(-EDGE, -EDGE - 1), -1);
        check.due("count(-50, 49) of none", check.with("[0=1]").count(-50, 49), 0);
        check.due("count(-50, 49) of all", claims.count(-50, 49), 100);
        check.due("count(-50, 50) of all", claims.count(-50, 50), -1);
    }

    private void bothEndsCount() {
        check.about("How many numbers from a to b do");
        LineClaims claims = check.with("/[x=-7][x=12]");
        check.due("count(-7, 12)", claims.count(-7, 12), 2);
        check.due("count(-6, 12)", claims.count(-6, 12), 1);
        check.due("count(-7, 11)", claims.count(-7, 11), 1);
        check.due("count(-6, 11)", claims.count(-6, 11), 0);
        check.due("count(-7, -7)", claims.count(-7, -7), 1);
        check.due("count(12, 12)", claims.count(12, 12), 1);
    }
}
