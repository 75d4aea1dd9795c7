/** Promise 11: count. */
public final class CountTest {
    public static void main(String[] args) {
        Due check = new Due();
        LineClaims odd = check.with("[2:x+1]");
        count(check, odd, 0, 99, 50);
        count(check, odd, 0, 100, -1);
        count(check, odd, 1, 1, 1);
        count(check, odd, 2, 2, 0);
        count(check, odd, 1, 0, 0);
        count(check, odd, 1, -1, -1);
        count(check, odd, -1000, -901, 50);
        count(check, odd, -1000, -900, -1);
        count(check, odd, 901, 1000, 50);
        count(check, odd, 900, 1000, -1);
        count(check, odd, 902, 1000, 49);
        count(check, odd, 902, 1001, -1);
        count(check, odd, -1001, -902, -1);
        count(check, odd, -1000, -1001, -1);
        count(check, odd, 1000, 999, 0);
        count(check, odd, 1001, 1000, -1);
        count(check, odd, 1001, 1001, -1);
        count(check, odd, -999, -1000, 0);
        wrong(check, odd);
        edgesOfTheStretch(check);
        count(check, check.with("[0=1]"), -50, 49, 0);
        count(check, check.with("[0<1]"), -50, 49, 100);
        count(check, check.with("ExEy[x<y]"), 7, 9, 3);
        count(check, check.with("ExAy[x<y]"), 7, 9, 0);
        count(check, check.with("&[3<x][x<8]"), -50, 49, 4);
        check.end();
    }

    private static void wrong(Due check, LineClaims claims) {
        count(check, claims, Integer.MIN_VALUE, Integer.MIN_VALUE, -1);
        count(check, claims, Integer.MIN_VALUE, Integer.MAX_VALUE, -1);
        count(check, claims, Integer.MAX_VALUE, Integer.MIN_VALUE, -1);
        count(check, claims, Integer.MAX_VALUE, Integer.MAX_VALUE, -1);
        count(check, claims, 0, Integer.MIN_VALUE, -1);
        count(check, claims, Integer.MIN_VALUE, 0, -1);
        count(check, claims, 0, Integer.MAX_VALUE, -1);
        count(check, claims, 1000, -1000, -1);
        count(check, claims, -1000, 1000, -1);
        count(check, claims, 0, 99, 50);
    }

    private static void edgesOfTheStretch(Due check) {
        LineClaims twelfth = check.with("Ey&[2y+5=x]&[2:y][3:y]");
        for (int a = -1000; a <= 901; a += 19) {
            int want = 0;
            for (int v = a; v <= a + 99; v++) {
                want += Math.floorMod(v, 12) == 5 ? 1 : 0;
            }
            count(check, twelfth, a, a + 99, want);
        }
    }

    private static void count(Due check, LineClaims claims, int a, int b, int want) {
        check.due("count(" + a + ", " + b + ")", claims.count(a, b), want);
    }
}
