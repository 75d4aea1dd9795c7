/** Promise 7: all. */
public final class AllTest {
    public static void main(String[] args) {
        Due check = new Due();
        all(check, "[x<15]", false);
        all(check, "![x=15]", false);
        all(check, "![2x=15]", true);
        all(check, "/[x<3][2<x]", true);
        all(check, "/[x<3][3<x]", false);
        all(check, "/[2:x][2:x+1]", true);
        all(check, "/[3:x][3:x+1]", false);
        all(check, "/[3:x]/[3:x+1][3:x+2]", true);
        all(check, "[2:2x]", true);
        all(check, "[3:2x]", false);
        all(check, "[x-x=0]", true);
        all(check, "[0<1]", true);
        all(check, "[1<0]", false);
        all(check, "Ey[y=2x+15]", true);
        all(check, "Ey[y=-2x-15]", true);
        all(check, "Ey[2y=x]", false);
        all(check, "Ey/[2y=x][2y=x+1]", true);
        all(check, "Ey&[x<y]&[y<x+7]&[2:y][3:y]", true);
        all(check, "Ey&[x<y]&[y<x+6]&[2:y][3:y]", false);
        all(check, "Ey&[2x+8<y]&[y<2x+15]&[2:y][3:y]", true);
        all(check, "Ey&[-2x-15<y]&[y<-2x-8]&[2:y][3:y+1]", true);
        all(check, "Ay/![y=15]![x=2y+15]", false);
        all(check, "Ay/![y=-15]![x=2y-15]", false);
        all(check, "AxEy[x<y]", true);
        all(check, "ExAy[x<y]", false);
        all(check, "Ax[x<3]", false);
        check.end();
    }

    private static void all(Due check, String text, boolean want) {
        check.due("all() with " + text, check.with(text).all(), want);
    }
}
