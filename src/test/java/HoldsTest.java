/** Promise 5: holds, with what each kind of claim says. */
public final class HoldsTest {
    private static final int[] OUTSIDE = {1001, -1001, 2000, Integer.MAX_VALUE, Integer.MIN_VALUE};

    public static void main(String[] args) {
        Due check = new Due();
        for (int v = -1000; v <= 1000; v += v > -30 && v < 30 ? 1 : 97) {
            atOne(check, v);
        }
        edges(check);
        farTurns(check);
        check.end();
    }

    private static void holds(Due check, String text, int v, boolean want) {
        check.due("holds(" + v + ") with " + text, check.with(text).holds(v), want);
    }

    private static void atOne(Due check, int v) {
        holds(check, "[x<3]", v, v < 3);
        holds(check, "[3<x]", v, 3 < v);
        holds(check, "[x<-3]", v, v < -3);
        holds(check, "[2x<7]", v, 2 * v < 7);
        holds(check, "[7<2x]", v, 7 < 2 * v);
        holds(check, "[-7<2x]", v, -7 < 2 * v);
        holds(check, "[-2x<8]", v, -2 * v < 8);
        holds(check, "[x=-7]", v, v == -7);
        holds(check, "[2x=14]", v, v == 7);
        holds(check, "[-2x=14]", v, v == -7);
        holds(check, "[2x=13]", v, false);
        holds(check, "[2:x]", v, v % 2 == 0);
        holds(check, "[3:x]", v, v % 3 == 0);
        holds(check, "[3:x+1]", v, Math.floorMod(v, 3) == 2);
        holds(check, "[3:-2x-1]", v, Math.floorMod(v, 3) == 1);
        holds(check, "[2:2x+1]", v, false);
        holds(check, "![x<3]", v, v >= 3);
        holds(check, "&[x<9][2:x]", v, v < 9 && v % 2 == 0);
        holds(check, "/[x<9][2:x]", v, v < 9 || v % 2 == 0);
        holds(check, ">[x<9][2:x]", v, v >= 9 || v % 2 == 0);
        holds(check, "Ey[2y=x]", v, v % 2 == 0);
        holds(check, "Ay![2y=x]", v, v % 2 != 0);
        holds(check, "Ey&[2y=x][2:y]", v, v % 4 == 0);
        holds(check, "Ey&[2y+1=x]&[2:y][3:y]", v, Math.floorMod(v, 12) == 1);
        holds(check, "Az>[z<x][z<10]", v, v <= 10);
        holds(check, "Ez&[-x<2z][2z<x]", v, v > 0);
        holds(check, "Ex[x=3]", v, true);
        holds(check, "Ax[x=3]", v, false);
        holds(check, "Ey&[y=-x-2][y=x]", v, v == -1);
        holds(check, "Ey&[y=-x][y=x]", v, v == 0);
        holds(check, "&[x<5]Ex[x=7]", v, v < 5);
        holds(check, "Ey[y=2x+15]", v, true);
        holds(check, "Ay![2x-15=y]", v, false);
    }

    private static void edges(Due check) {
        holds(check, "[0<1]", 1000, true);
        holds(check, "[0<1]", -1000, true);
        for (int v : OUTSIDE) {
            holds(check, "[0<1]", v, false);
            holds(check, "![x=4]", v, false);
        }
    }

    /** The claims with the turns that are farthest from 0. */
    private static void farTurns(Due check) {
        for (int v = -120; v <= 120; v++) {
            holds(check, "Ey&&[15<y][2y<x-15]&[3:y][2:y+1]", v, v >= 58);
            holds(check, "Ey&&[y<-15][x+15<2y]&[3:y][2:y+1]", v, v <= -58);
            holds(check, "Ay>&&[15<y][2y<x-15][3:y][2:y]", v, v <= 57);
            holds(check, "Ey&[y=-x-2][y=x]", v, v == -1);
            holds(check, "Ey&[y=15][x=2y+15]", v, v == 45);
            holds(check, "Ey&[y=-15][x=2y-15]", v, v == -45);
        }
    }
}
