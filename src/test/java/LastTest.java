/** Promise 9: last. */
public final class LastTest {
    private static final int NONE = -1000000;

    public static void main(String[] args) {
        Due check = new Due();
        last(check, "[x=5]", 1000, 5);
        last(check, "[x=5]", 5, 5);
        last(check, "[x=5]", 4, NONE);
        last(check, "[5<x]", 1000, 1000);
        last(check, "[5<x]", 6, 6);
        last(check, "[5<x]", 5, NONE);
        last(check, "[5<x]", -1000, NONE);
        last(check, "[x<-15]", 1000, -16);
        last(check, "[x<-15]", -1000, -1000);
        last(check, "Ey&[2y=x]&[2:y][3:y]", -997, -1008);
        last(check, "Ey&[2y=x]&[2:y][3:y]", -1000, -1008);
        last(check, "Ey&[2y=x]&[2:y][3:y]", 1000, 996);
        last(check, "Ey&[2y+1=x]&[2:y][3:y]", -1000, -1007);
        last(check, "&[x<-15]Ey&[2y-3=x]&[2:y][3:y]", 1000, -27);
        last(check, "Ey&[y=15][x=2y+15]", 1000, 45);
        last(check, "Ey&[y=15][x=2y+15]", 44, NONE);
        last(check, "Ey&[y=-15][x=2y-15]", 1000, -45);
        last(check, "Ey&&[y<-15][x+15<2y]&[3:y][2:y+1]", 1000, -58);
        last(check, "[0=1]", 0, NONE);
        last(check, "[0<1]", -1000, -1000);
        last(check, "[0<1]", 1000, 1000);
        last(check, "AxEy[x<y]", 12, 12);
        int[] outside = {-1001, 1001, Integer.MIN_VALUE, Integer.MAX_VALUE};
        for (int v : outside) {
            last(check, "[0<1]", v, NONE);
            last(check, "[x=5]", v, NONE);
        }
        check.end();
    }

    private static void last(Due check, String text, int v, int want) {
        check.due("last(" + v + ") with " + text, check.with(text).last(v), want);
    }
}
