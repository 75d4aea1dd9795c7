/** The calls that README.md shows. */
public final class UseTest {
    public static void main(String[] args) {
        Due check = new Due();
        LineClaims claims = new LineClaims();
        check.due("type of \"Ey&2\"", claims.type(0x45792632, 4), true);
        check.due("take()", claims.take(), -4);
        check.due("all() of the claim before", claims.all(), true);
        check.due("type of \"Ey[2\"", claims.type(0x45795B32, 4), true);
        check.due("type of \"y=x]\"", claims.type(0x793D785D, 4), true);
        check.due("take()", claims.take(), 1);
        check.due("holds(6)", claims.holds(6), true);
        check.due("next(7)", claims.next(7), 8);
        check.due("last(-1)", claims.last(-1), -2);
        check.due("count(0, 9)", claims.count(0, 9), 5);
        check.due("period()", claims.period(), 2);
        check.end();
    }
}
