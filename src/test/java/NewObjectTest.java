/** Promise 1: the claim of a new object is [0 < 1], and nothing is typed. */
public final class NewObjectTest {
    public static void main(String[] args) {
        Due check = new Due();
        LineClaims claims = new LineClaims();
        check.due("free()", claims.free(), false);
        check.due("some()", claims.some(), true);
        check.due("all()", claims.all(), true);
        check.due("period()", claims.period(), 1);
        check.due("again(true)", claims.again(true), true);
        check.due("again(false)", claims.again(false), true);
        for (int v = -1000; v <= 1000; v += 125) {
            check.due("holds(" + v + ")", claims.holds(v), true);
            check.due("next(" + v + ")", claims.next(v), v);
            check.due("last(" + v + ")", claims.last(v), v);
        }
        check.due("count(-50, 49)", claims.count(-50, 49), 100);
        check.due("take() of nothing", claims.take(), -1);
        check.due("all() after it", claims.all(), true);
        objectsAreApart(check);
        check.end();
    }

    private static void objectsAreApart(Due check) {
        LineClaims one = check.with("[x<0]");
        check.type(one, "[x=");
        LineClaims other = new LineClaims();
        check.due("all() of a new object after another one", other.all(), true);
        check.due("take() of a new object after another one", other.take(), -1);
        check.take(one, "1]", 1);
        check.due("next(-5) of the other one", one.next(-5), 1);
        check.due("all() of the new one", other.all(), true);
    }
}
