/** Promise 4: free. */
public final class FreeTest {
    public static void main(String[] args) {
        Due check = new Due();
        free(check, "[x<1]", true);
        free(check, "[0<1]", false);
        free(check, "[1<x]", true);
        free(check, "[2:x]", true);
        free(check, "[x-x=0]", true);
        free(check, "[2x=x+x]", true);
        free(check, "Ex[x<1]", false);
        free(check, "Ey[x<1]", true);
        free(check, "Ey[x<y]", true);
        free(check, "Ay!/[0=1][2:y-x]", true);
        free(check, "&Ex[x<1][x<1]", true);
        free(check, "&[x<1]Ex[x<1]", true);
        free(check, "/Ax[x<1][0<1]", false);
        free(check, ">Ax[x<1]Ax[x=1]", false);
        free(check, ">Ax[x<1]Az[x=z]", true);
        free(check, "ExEy[x<y]", false);
        free(check, "AyEx[x<y]", false);
        free(check, "![x=3]", true);
        check.end();
    }

    private static void free(Due check, String text, boolean want) {
        LineClaims claims = check.with(text);
        check.due("free() with " + text, claims.free(), want);
        check.due("free() again with " + text, claims.free(), want);
    }
}
