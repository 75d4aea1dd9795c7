/** Promise 4: free. */
public final class FreeTest {
    public static void main(String[] args) {
        Due check = new Due();
        free(check, "[x<1]", true);
        free(check, "[0<1]", false);
        free(check, "[1<x]", true);
        free(check, "[2:x]", true);
        free(check, "[x-x=0]", true);
        free(check, "[2x=x+x]", true);
        free(check, "Ex[x<1]", false);
        free(check, "Ey[x<1]", true);
        free(check, "Ey[x<y]", true);
        free(check, "Ay!/[0=1][2:y-x]", true);
        free(check, "&Ex[x<1][x<1]", true);
        free(check, "&[x<1]Ex[x<1]", true);
        free(check, "/Ax[x<1][0<1]", false);
        free(check, ">Ax[x<1]Ax[x=1]", false);
        free(check, ">Ax[x<1]Az[x=z]", true);
        free(check, "ExEy[x<y]", false);
        free(check, "AyEx[x<y]", false);
        free(check, "![x=3]", true);
        oneObject(check);
        check.end();
    }

    /** What an earlier claim had at the same place counts for nothing. */
    private static void oneObject(Due check) {
        LineClaims claims = new LineClaims();
        check.take(claims, "&Ey[y=x][x<1]", 2);
        check.due("free() of the first claim", claims.free(), true);
        check.take(claims, "&![0<1][0<1]", 2);
        check.due("free() of the second claim", claims.free(), false);
        check.take(claims, "&Ex![0<1]Ex[2:x]", 2);
        check.due("free() of the third claim", claims.free(), false);
        check.take(claims, "&Ez![0<1]Ex[2:x]]", -17);
        check.due("free() after a faulty one", claims.free(), false);
        check.take(claims, "[x=1]", 1);
        check.due("free() of the last claim", claims.free(), true);
    }

    private static void free(Due check, String text, boolean want) {
        LineClaims claims = check.with(text);
        check.due("free() with " + text, claims.free(), want);
        check.due("free() again with " + text, claims.free(), want);
    }
}
