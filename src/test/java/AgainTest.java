/** Promise 10: again. */
public final class AgainTest {
    public static void main(String[] args) {
        Due check = new Due();
        again(check, "[x<15]", false, true);
        again(check, "[-15<x]", true, false);
        again(check, "[x=15]", false, false);
        again(check, "![x=15]", true, true);
        again(check, "[2:x]", true, true);
        again(check, "&[x<-15][3:x+1]", false, true);
        again(check, "&[15<x][3:x+1]", true, false);
        again(check, "[0<1]", true, true);
        again(check, "[0=1]", false, false);
        again(check, "AxEy[x<y]", true, true);
        again(check, "ExAy[x<y]", false, false);
        again(check, "Ey&[y=15][x=2y+15]", false, false);
        again(check, "Ey&&[15<y][2y<x-15]&[3:y][2:y+1]", true, false);
        again(check, "Ey&&[y<-15][x+15<2y]&[3:y][2:y+1]", false, true);
        for (int residue = 0; residue < 12; residue++) {
            String each = "Ey&[2y+" + residue + "=x]&[2:y][3:y]";
            again(check, "&[0<x]" + each, true, false);
            again(check, "&[x<0]" + each, false, true);
        }
        check.end();
    }

    private static void again(Due check, String text, boolean up, boolean down) {
        LineClaims claims = check.with(text);
        check.due("again(true) with " + text, claims.again(true), up);
        check.due("again(false) with " + text, claims.again(false), down);
    }
}
