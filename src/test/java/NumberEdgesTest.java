/** The edges -1000 and 1000 of holds, next and last, and that next and last may be beyond them. */
public final class NumberEdgesTest {
    private static final int EDGE = 1000;
    private static final int NONE = 1000000;
    private static final int[] OUTSIDE = {
        EDGE + 1, -EDGE - 1, EDGE + 12, -EDGE - 12, 65536, -65536, NONE, -NONE, Integer.MAX_VALUE, Integer.MIN_VALUE};

    private final Due check = new Due();

    public static void main(String[] args) {
        NumberEdgesTest test = new NumberEdgesTest();
        test.holdsInside();
        test.holdsOutside();
        test.nextAtTheEdges();
        test.nextOutside();
        test.nextIfThereIsNone();
        test.lastAtTheEdges();
        test.lastOutside();
        test.lastIfThereIsNone();
        test.fromVItselfOn();
        test.beyondTheEdges();
        test.check.end();
    }

    private void holdsInside() {
        check.about("Whether v (-1000 .. 1000, else false) satisfies the claim");
        LineClaims even = check.with("[2:x]");
        LineClaims odd = check.with("![2:x]");
        for (int i = 0; i <= 3; i++) {
            check.due("holds(" + (EDGE - i) + ") with even", even.holds(EDGE - i), i % 2 == 0);
            check.due("holds(" + (i - EDGE) + ") with even", even.holds(i - EDGE), i % 2 == 0);
            check.due("holds(" + (EDGE - i) + ") with odd", odd.holds(EDGE - i), i % 2 != 0);
            check.due("holds(" + (i - EDGE) + ") with odd", odd.holds(i - EDGE), i % 2 != 0);
        }
    }

    private void holdsOutside() {
        check.about("-1000 .. 1000, else false");
        String[] texts = {"[0<1]", "![x=4]", "[2:x]", "![2:x]", "[0<x]", "[x<0]"};
        for (String text : texts) {
            LineClaims claims = check.with(text);
            for (int v : OUTSIDE) {
                check.due("holds(" + v + ") with " + text, claims.holds(v), false);
            }
        }
    }

    private void next(LineClaims claims, int v, int want) {
        check.due("next(" + v + ")", claims.next(v), want);
    }

    private void last(LineClaims claims, int v, int want) {
        check.due("last(" + v + ")", claims.last(v), want);
    }

    private void nextAtTheEdges() {
        check.about("The least number from v on (-1000 .. 1000) that does");
        next(check.with("[0<1]"), EDGE, EDGE);
        next(check.with("[0<1]"), -EDGE, -EDGE);
        next(check.with("[x<0]"), -EDGE, -EDGE);
        next(check.with("[0<x]"), -EDGE, 1);
        next(check.with("[0<x]"), EDGE, EDGE);
        next(check.with("![2:x]"), EDGE, EDGE + 1);
        next(check.with("![2:x]"), -EDGE, 1 - EDGE);
    }

    private void nextOutside() {
        check.about("1000000 if v is not so");
        for (int v : OUTSIDE) {
            next(check.with("[0<1]"), v, NONE);
            next(check.with("[2:x]"), v, NONE);
            next(check.with("[x=4]"), v, NONE);
            next(check.with("[0=1]"), v, NONE);
        }
    }

    private void nextIfThereIsNone() {
        check.about("1000000 if there is none");
        next(check.with("[x<0]"), -1, -1);
        next(check.with("[x<0]"), 0, NONE);
        next(check.with("[x<0]"), EDGE, NONE);
        next(check.with("[0=1]"), -EDGE, NONE);
        next(check.with("[x=-15]"), -15, -15);
        next(check.with("[x=-15]"), -14, NONE);
        next(check.with("[x=15]"), -EDGE, 15);
        next(check.with("[x=15]"), 16, NONE);
        next(check.with("&[x<-9][3:x]"), -12, -12);
        next(check.with("&[x<-9][3:x]"), -11, NONE);
        next(check.with("&[2x=7][x<9]"), -EDGE, NONE);
    }

    private void lastAtTheEdges() {
        check.about("The greatest number up to v (-1000 .. 1000) that does");
        last(check.with("[0<1]"), EDGE, EDGE);
        last(check.with("[0<1]"), -EDGE, -EDGE);
        last(check.with("[0<x]"), EDGE, EDGE);
        last(check.with("[x<0]"), EDGE, -1);
        last(check.with("[x<0]"), -EDGE, -EDGE);
        last(check.with("![2:x]"), -EDGE, -EDGE - 1);
        last(check.with("![2:x]"), EDGE, EDGE - 1);
    }

    private void lastOutside() {
        check.about("-1000000 if v is not so");
        for (int v : OUTSIDE) {
            last(check.with("[0<1]"), v, -NONE);
            last(check.with("[2:x]"), v, -NONE);
            last(check.with("[x=4]"), v, -NONE);
            last(check.with("[0=1]"), v, -NONE);
        }
    }

    private void lastIfThereIsNone() {
        check.about("-1000000 if there is none");
        last(check.with("[0<x]"), 1, 1);
        last(check.with("[0<x]"), 0, -NONE);
        last(check.with("[0<x]"), -EDGE, -NONE);
        last(check.with("[0=1]"), EDGE, -NONE);
        last(check.with("[x=15]"), 15, 15);
        last(check.with("[x=15]"), 14, -NONE);
        last(check.with("[x=-15]"), EDGE, -15);
        last(check.with("[x=-15]"), -16, -NONE);
        last(check.with("&[9<x][3:x]"), 12, 12);
        last(check.with("&[9<x][3:x]"), 11, -NONE);
        last(check.with("&[2x=7][x<9]"), EDGE, -NONE);
    }

    private void fromVItselfOn() {
        check.about("from v on, up to v: v itself too");
        LineClaims claims = check.with("[3:x]");
        for (int v = -EDGE; v <= EDGE; v += 5) {
            next(claims, v, v + Math.floorMod(-v, 3));
            last(claims, v, v - Math.floorMod(v, 3));
        }
    }

    /** x is as many as rest beyond a multiple of 12: what is farthest between two numbers that do. */
    private void beyondTheEdges() {
        check.about("the numbers that do have no bound of their own");
        for (int rest = 0; rest < 12; rest++) {
            LineClaims claims = check.with("Ey&[2y+" + rest + "=x]&[2:y][3:y]");
            for (int i = 0; i <= 12; i++) {
                int up = EDGE - i;
                int down = i - EDGE;
                next(claims, up, up + Math.floorMod(rest - up, 12));
                last(claims, down, down - Math.floorMod(down - rest, 12));
                next(claims, down, down + Math.floorMod(rest - down, 12));
                last(claims, up, up - Math.floorMod(up - rest, 12));
            }
        }
    }
}
