/** Promise 12: period. */
public final class PeriodTest {
    public static void main(String[] args) {
        Due check = new Due();
        period(check, "[0<1]", 1);
        period(check, "[0=1]", 1);
        period(check, "[x<3]", 1);
        period(check, "[x=3]", 1);
        period(check, "![x=3]", 1);
        period(check, "AxEy[2y=x]", 1);
        period(check, "[2:x]", 2);
        period(check, "![2:x]", 2);
        period(check, "[3:x]", 3);
        period(check, "/[3:x+1][3:x]", 3);
        period(check, "&[2:x][3:x+1]", 6);
        period(check, "/[2:x][3:x+1]", 6);
        period(check, "Ey[2y=x]", 2);
        period(check, "Ey&[2y=x][2:y]", 4);
        period(check, "Ay>[2:y]![2y+3=x]", 4);
        period(check, "Ey&[2y=x][3:y]", 6);
        period(check, "Ey&[2y=x]&[2:y][3:y]", 12);
        period(check, "/Ey&[2y=x][2:y][3:x+2]", 12);
        period(check, "/Ey&[2y=x][2:y]Ey&[2y=x-2][2:y]", 2);
        period(check, "&[2:x][2:x+1]", 1);
        period(check, "/[2:x][2:x+1]", 1);
        onlyFarUpCounts(check);
        check.end();
    }

    private static void onlyFarUpCounts(Due check) {
        period(check, "&[x<0][2:x]", 1);
        period(check, "/[x<0][2:x]", 2);
        period(check, "/&[x<15][2:x]&[14<x][3:x]", 3);
        period(check, "/&[15<x][2:x]&[x<15][3:x]", 2);
        period(check, "&[-15<x]Ey&[2y=x]&[2:y][3:y]", 12);
        period(check, "&[x<15]Ey&[2y=x]&[2:y][3:y]", 1);
        period(check, "Ey&&[15<y][2y<x-15]&[3:y][2:y+1]", 1);
        period(check, "Ey&[y=15][x=2y+15]", 1);
    }

    private static void period(Due check, String text, int want) {
        check.due("period() with " + text, check.with(text).period(), want);
    }
}
