/** Promise 6: some. */
public final class SomeTest {
    public static void main(String[] args) {
        Due check = new Due();
        some(check, "[x=15]", true);
        some(check, "[x=-15]", true);
        some(check, "[2x=7]", false);
        some(check, "&[x<3][3<x]", false);
        some(check, "&[x<4][2<x]", true);
        some(check, "&[2:x][2:x+1]", false);
        some(check, "&[15<x]&[2:x][3:x+2]", true);
        some(check, "[0<1]", true);
        some(check, "[0=1]", false);
        some(check, "Ey&[y=15][x=2y+15]", true);
        some(check, "Ey&[y=-15][x=2y-15]", true);
        some(check, "Ey&[y+y=x][2:x+1]", false);
        some(check, "&[2<x]Ey&[0<y]&[2y<x][x<y+2]", false);
        twoQuantifiers(check);
        check.end();
    }

    private static void some(Due check, String text, boolean want) {
        check.due("some() with " + text, check.with(text).some(), want);
    }

    private static void twoQuantifiers(Due check) {
        some(check, "AxEy[x<y]", true);
        some(check, "ExAy[x<y]", false);
        some(check, "ExAy/[y<x][x-1<y]", true);
        some(check, "AxEy[2y=x]", false);
        some(check, "AxEy[y=2x+15]", true);
        some(check, "AxEy[y=-2x-15]", true);
        some(check, "AxAy>[x<y]![y<x]", true);
        some(check, "AxAy/[x<y][y<x]", false);
        some(check, "AxEy&[x<y]&[y<x+7]&[2:y][3:y]", true);
        some(check, "AxEy&[x<y]&[y<x+6]&[2:y][3:y]", false);
        some(check, "AxEy&[2x+8<y]&[y<2x+15]&[2:y][3:y]", true);
        some(check, "AxEy&[2x+8<y]&[y<2x+14]&[2:y][3:y]", false);
        some(check, "ExEy&[y=15][x=2y+15]", true);
        some(check, "ExEy&[y=-15][x=2y-15]", true);
        some(check, "AxAy>[y=15]![x=2y+15]", false);
        some(check, "AyEx&[y<2x][2x<y+3]", true);
        some(check, "AyEx&[y<2x][2x<y+2]", false);
        some(check, "AxEx[x=3]", true);
        some(check, "ExAx[x=3]", false);
        some(check, "ExAx/[x<3][2<x]", true);
        some(check, "Ez&[z=3]Az/[z<3][2<z]", true);
        some(check, "Ax/[x<5]Ey&[0<y]&[4<y][y<x+1]", true);
        some(check, "Ax/[x<5]Ey&[0<y]&[4<y][y<x]", false);
        some(check, "&ExAy[x=x]!ExAy[x=y]", true);
        some(check, ">AxEy[2y=x]ExAy[x<y]", true);
    }
}
