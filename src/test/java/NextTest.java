/** Promise 8: next. */
public final class NextTest {
    private static final int NONE = 1000000;

    public static void main(String[] args) {
        Due check = new Due();
        next(check, "[x=5]", -1000, 5);
        next(check, "[x=5]", 5, 5);
        next(check, "[x=5]", 6, NONE);
        next(check, "[x<5]", -1000, -1000);
        next(check, "[x<5]", 4, 4);
        next(check, "[x<5]", 5, NONE);
        next(check, "[x<5]", 1000, NONE);
        next(check, "[15<x]", -1000, 16);
        next(check, "[15<x]", 1000, 1000);
        next(check, "Ey&[2y=x]&[2:y][3:y+1]", 1000, 1000);
        next(check, "Ey&[2y=x]&[2:y][3:y]", 997, 1008);
        next(check, "Ey&[2y=x]&[2:y][3:y]", 1000, 1008);
        next(check, "Ey&[2y=x]&[2:y][3:y]", -1000, -996);
        next(check, "Ey&[2y+11=x]&[2:y][3:y]", 1000, 1007);
        next(check, "&[15<x]Ey&[2y+3=x]&[2:y][3:y]", -1000, 27);
        next(check, "Ey&[y=15][x=2y+15]", -1000, 45);
        next(check, "Ey&[y=-15][x=2y-15]", -1000, -45);
        next(check, "Ey&[y=-15][x=2y-15]", -44, NONE);
        next(check, "Ey&&[15<y][2y<x-15]&[3:y][2:y+1]", -1000, 58);
        next(check, "[0=1]", 0, NONE);
        next(check, "[0<1]", -1000, -1000);
        next(check, "[0<1]", 1000, 1000);
        next(check, "AxEy[x<y]", 12, 12);
        int[] outside = {-1001, 1001, Integer.MIN_VALUE, Integer.MAX_VALUE};
        for (int v : outside) {
            next(check, "[0<1]", v, NONE);
            next(check, "[x=5]", v, NONE);
        }
        check.end();
    }

    private static void next(Due check, String text, int v, int want) {
        check.due("next(" + v + ") with " + text, check.with(text).next(v), want);
    }
}
