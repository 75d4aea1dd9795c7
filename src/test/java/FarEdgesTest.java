/** The edges of some, all, again and period: one number that does, one that does not, and where what is far up begins. */
public final class FarEdgesTest {
    /** No claim turns farther from 0 than these do: x is at least 58, x is at most -58. */
    private static final String FAR_UP = "Ey&&[15<y][2y<x-15]&[3:y][2:y+1]";
    private static final String FAR_DOWN = "Ey&&[y<-15][x+15<2y]&[3:y][2:y+1]";

    private final Due check = new Due();

    public static void main(String[] args) {
        FarEdgesTest test = new FarEdgesTest();
        test.oneNumber();
        test.noNumber();
        test.allButOne();
        test.againAndAgain();
        test.farTurns();
        test.periods();
        test.onlyFarUpCounts();
        test.check.end();
    }

    private void oneNumber() {
        check.about("Whether some whole number does: just one");
        for (int v = -15; v <= 15; v++) {
            some("[x=" + v + "]", true);
            some("[2x=" + v + "]", v % 2 == 0);
            some("Ey&[y=" + v + "][x=2y+15]", true);
            some("Ey&[y=" + v + "][x=2y-15]", true);
            some("Ey&[y=" + v + "][2x=2y+1]", false);
        }
    }

    private void some(String text, boolean want) {
        LineClaims claims = check.with(text);
        check.due("some() with " + text, claims.some(), want);
        check.due("all() with " + text, claims.all(), false);
        check.due("again(true) with " + text, claims.again(true), false);
        check.due("again(false) with " + text, claims.again(false), false);
    }

    private void noNumber() {
        check.about("Whether some whole number does: none");
        some("&[x<4][3<x]", false);
        some("&[x<5][3<x]", true);
        some("[x<x]", false);
        some("[2x=x+x+1]", false);
        some("&[2:x][2:x+1]", false);
        some("[0=1]", false);
    }

    private void allButOne() {
        check.about("Whether each whole number does: all but one");
        for (int v = -15; v <= 15; v++) {
            all("![x=" + v + "]", false);
            all("![2x=" + v + "]", v % 2 != 0);
            all("Ay/![y=" + v + "]![x=2y+15]", false);
            all("/[x<" + v + "][" + v + "<x]", false);
        }
        for (int v = -14; v <= 15; v++) {
            all("/[x<" + v + "][" + v + "-1<x]", true);
        }
        all("Ey[y=2x+15]", true);
        all("Ey[y=-2x-15]", true);
        all("[x=x]", true);
        all("[x<x+1]", true);
        all("/[2:x][2:x+1]", true);
        all("/[3:x][3:x+1]", false);
        all("/[3:x]/[3:x+1][3:x-1]", true);
    }

    private void all(String text, boolean want) {
        LineClaims claims = check.with(text);
        check.due("all() with " + text, claims.all(), want);
        check.due("some() with " + text, claims.some(), true);
        check.due("again(true) with " + text, claims.again(true), true);
        check.due("again(false) with " + text, claims.again(false), true);
    }

    private void againAndAgain() {
        check.about("Whether numbers above every bound do (up), or below every bound");
        again("[15<x]", true, false);
        again("[x<15]", false, true);
        again("&[-15<x][x<15]", false, false);
        again("/[x<-15][15<x]", true, true);
        for (int rest = 0; rest < 12; rest++) {
            String each = "Ey&[2y+" + rest + "=x]&[2:y][3:y]";
            again(each, true, true);
            again("&[15<x]" + each, true, false);
            again("&[x<-15]" + each, false, true);
            again("&&[x<15][-15<x]" + each, false, false);
        }
    }

    private void again(String text, boolean up, boolean down) {
        LineClaims claims = check.with(text);
        check.due("again(true) with " + text, claims.again(true), up);
        check.due("again(false) with " + text, claims.again(false), down);
    }

    private void farTurns() {
        check.about("far enough up, above every bound, below every bound");
        again(FAR_UP, true, false);
        again("!" + FAR_UP, false, true);
        again(FAR_DOWN, false, true);
        again("!" + FAR_DOWN, true, false);
        LineClaims up = check.with(FAR_UP);
        check.due("next(-1000)", up.next(-1000), 58);
        check.due("last(57)", up.last(57), -1000000);
        check.due("some()", up.some(), true);
        check.due("all()", up.all(), false);
        LineClaims down = check.with(FAR_DOWN);
        check.due("last(1000)", down.last(1000), -58);
        check.due("next(-57)", down.next(-57), 1000000);
        check.due("some()", down.some(), true);
        check.due("all()", down.all(), false);
    }

    private void periods() {
        check.about("The least number p, at least 1");
        period("[0<1]", 1);
        period("[0=1]", 1);
        period("[x=3]", 1);
        period("[2:x]", 2);
        period("[2:2x]", 1);
        period("[3:x]", 3);
        period("[3:2x+1]", 3);
        period("Ey&[2y=x][2:y]", 4);
        period("&[2:x][3:x]", 6);
        period("/[2:x][3:x]", 6);
        period("Ey&[2y=x]&[2:y][3:y]", 12);
        period("/&[2:x][3:x]&[2:x+1][3:x]", 3);
        period("/&[2:x][3:x]/&[2:x][3:x+1]&[2:x][3:x+2]", 2);
    }

    private void onlyFarUpCounts() {
        check.about("for all numbers above some bound");
        period("&[x<15][2:x]", 1);
        period("/[x<15][2:x]", 2);
        period("&[15<x][2:x]", 2);
        period("/&[x<-15][2:x]&[15<x][3:x]", 3);
        period("/&[15<x][2:x]&[x<-15][3:x]", 2);
        period("&" + FAR_UP + "[3:x]", 3);
        period("/" + FAR_UP + "[3:x]", 1);
        period("&" + FAR_DOWN + "[3:x]", 1);
        period("/" + FAR_DOWN + "[3:x]", 3);
        period("&[3:x]&![x=15][15=15]", 3);
    }

    private void period(String text, int want) {
        check.due("period() with " + text, check.with(text).period(), want);
    }
}
