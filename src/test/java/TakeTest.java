/** Promise 3: take, with what a text, a claim, a sum and a faulty text are. */
public final class TakeTest {
    public static void main(String[] args) {
        Due check = new Due();
        soundTexts(check);
        spaces(check);
        faultsOfSums(check);
        faultsOfDivisors(check);
        ranges(check);
        variables(check);
        quantifiers(check);
        limits(check);
        ends(check);
        whatStays(check);
        check.end();
    }

    private static void take(Due check, String text, int want) {
        check.take(new LineClaims(), text, want);
    }

    private static void soundTexts(Due check) {
        take(check, "[x<1]", 1);
        take(check, "[x=1]", 1);
        take(check, "[2:x]", 1);
        take(check, "[3:x]", 1);
        take(check, "![x<1]", 1);
        take(check, "&[x<1][x<1]", 2);
        take(check, "/[x<1][x<1]", 2);
        take(check, ">[x<1][x<1]", 2);
        take(check, "Ex[x<1]", 1);
        take(check, "Ay[y<1]", 1);
        take(check, "Ez/[2z=x]![-z-12+1x=2]", 2);
        take(check, "[2<x]", 1);
        take(check, "[3=2x]", 1);
        take(check, "[22-20<x]", 1);
        take(check, "[00<01]", 1);
        take(check, "[-00<-1]", 1);
        take(check, "[2:-3]", 1);
        take(check, "[2:2]", 1);
        take(check, "[3:3-2x+1x-x]", 1);
    }

    private static void spaces(Due check) {
        LineClaims claims = new LineClaims();
        check.take(claims, " [ 1 2 < 2 x ] ", 1);
        check.due("next(0)", claims.next(0), 7);
        check.take(claims, "  E  y [ 2 : 1 y - x ]  ", 1);
        check.take(claims, " [ 2 : 2 : x ]", -10);
        check.take(claims, "  [ x ]", -7);
        check.take(claims, "[x<1]  ]", -8);
        check.take(claims, "[x<1   ", -8);
        check.take(claims, "    ", -5);
        check.take(claims, "[ 1 2 3 <x]", -7);
    }

    private static void faultsOfSums(Due check) {
        take(check, "[+x<1]", -2);
        take(check, "[--x<1]", -3);
        take(check, "[x+-1<1]", -4);
        take(check, "[x<+1]", -4);
        take(check, "[x-+1<1]", -4);
        take(check, "[x<--1]", -5);
        take(check, "[123<x]", -4);
        take(check, "[x+100<x]", -6);
        take(check, "[0x<1]", -3);
        take(check, "[9x<1]", -3);
        take(check, "[12x<1]", -4);
        take(check, "[02x<1]", -4);
        take(check, "[x2<1]", -3);
        take(check, "[xx<1]", -3);
        take(check, "[x<1<2]", -5);
        take(check, "[x=1<2]", -5);
        take(check, "[x>1]", -3);
        take(check, "[<1]", -2);
        take(check, "[x<]", -4);
        take(check, "[x+<1]", -4);
        take(check, "[-<1]", -3);
        take(check, "[x]", -3);
        take(check, "[1]", -3);
        take(check, "[[x<1]]", -2);
        take(check, "[x<w]", -4);
    }

    private static void faultsOfDivisors(Due check) {
        take(check, "[1:x]", -3);
        take(check, "[4:x]", -3);
        take(check, "[0:x]", -3);
        take(check, "[6:x]", -3);
        take(check, "[22:x]", -4);
        take(check, "[02:x]", -4);
        take(check, "[-2:x]", -4);
        take(check, "[2x:x]", -4);
        take(check, "[x+2:x]", -5);
        take(check, "[2:x:x]", -5);
        take(check, "[2:x<1]", -5);
        take(check, "[2:x=1]", -5);
        take(check, "[x<2:x]", -5);
        take(check, "[2:]", -4);
        take(check, "[2:2:x]", -5);
        take(check, "[2:+x]", -4);
        take(check, "[:x]", -2);
    }

    private static void ranges(Due check) {
        take(check, "[2x<x+x+x+x+3-3]", 1);
        take(check, "[2x<-x]", -7);
        take(check, "[x+x+x-x<0]", 1);
        take(check, "[2x+2x<2x]", 1);
        take(check, "[2x+2x<1x]", -10);
        take(check, "[-2x-x<x-2x]", 1);
        take(check, "[-2x<x]", -7);
        take(check, "[2:2x+1x]", -9);
        take(check, "[2:-2x-1x]", -10);
        take(check, "[2:2x+2x-2x]", 1);
        take(check, "Ey[y+2y=x]", -10);
        take(check, "EyEz[z+2z=2y]", -13);
        take(check, "EyEz[2z+2y=y+z+x]", -18);
        take(check, "Ez[-z=2z]", -9);
        take(check, "[15<x]", 1);
        take(check, "[16<x]", -6);
        take(check, "[x<15]", 1);
        take(check, "[x<16]", -6);
        take(check, "[-15<x]", 1);
        take(check, "[-16<x]", -7);
        take(check, "[x<-16]", -7);
        take(check, "[99-84<x]", 1);
        take(check, "[99-83<x]", -9);
        take(check, "[99<99]", 1);
        take(check, "[99=84+x]", 1);
        take(check, "[99=83+x]", -9);
        take(check, "[10<-5]", 1);
        take(check, "[10<-6]", -7);
        take(check, "[2:15]", 1);
        take(check, "[2:16]", -6);
        take(check, "[3:x-15]", 1);
        take(check, "[3:x-16]", -8);
    }

    private static void variables(Due check) {
        take(check, "[y<1]", -2);
        take(check, "[z<1]", -2);
        take(check, "[2z<1]", -3);
        take(check, "[x<y]", -4);
        take(check, "[2:y]", -4);
        take(check, "[y-y<1]", -2);
        take(check, "Ey[z<1]", -4);
        take(check, "Ex[y<1]", -4);
        take(check, "&Ey[y<1][y<1]", -10);
        take(check, "&[x<1]Ey[y<1]", 2);
        take(check, "EyEy&[y<1][y=x]", -16);
        take(check, "Ey&Ey[y<1][y<1]", 2);
        take(check, "EyEz&[y<z][z<2y]", 2);
        take(check, "&EyEz[y<z][z<y]", -12);
    }

    private static void quantifiers(Due check) {
        take(check, "E[x<1]", -2);
        take(check, "EE[x<1]", -2);
        take(check, "Aw[x<1]", -2);
        take(check, "E2x[x<1]", -2);
        take(check, "AxAx[x<1]", 1);
        take(check, "AxAxAx[x<1]", -5);
        take(check, "Ex!Ey!Az[x<1]", -7);
        take(check, "Ex&Ey[x<y]Az[x<z]", 2);
        take(check, "&ExEy[x<y]AzEx[x<z]", 2);
        take(check, "&ExEy[x<y]AzEy[x<z]", -20);
        take(check, "&AzEy[y<z][x<1]", -16);
        take(check, "&AzEy[y<z][x<1]]", -16);
        take(check, "&AzEy[y<z][x<1", -15);
        take(check, "&AzEy[y<z][x-x<1]", -18);
        take(check, "AzEy[y<x]  ", -12);
        take(check, "&AzEy[y<z]Ex[x<1]", 2);
        take(check, "&Ay[y<x]Az[z<x]", 2);
    }

    private static void limits(Due check) {
        take(check, "&".repeat(7) + "[0<1]".repeat(8), 8);
        take(check, "&".repeat(8) + "[0<1]".repeat(9), -49);
        take(check, "&".repeat(7) + "[0<1]".repeat(9), -48);
        take(check, "&".repeat(11) + "!".repeat(5) + "[0<1]".repeat(8), -37);
        take(check, "&".repeat(7) + "!".repeat(5) + "[0<1]".repeat(8), 8);
        take(check, "&".repeat(7) + "!".repeat(6) + "[0<1]".repeat(8), -49);
        take(check, "!".repeat(18) + "Ex[0<1]", 1);
        take(check, "!".repeat(19) + "Ex[0<1]", -22);
        take(check, "!".repeat(19) + "[0<1]", 1);
        take(check, "!".repeat(20) + "[0<1]", -21);
        take(check, "!".repeat(20), -21);
        take(check, "!".repeat(21), -21);
        take(check, "&".repeat(120), -21);
        take(check, "E".repeat(120), -2);
        take(check, "[".repeat(120), -2);
        take(check, "[" + "x-".repeat(57) + "x<0]", -119);
        take(check, "[" + "1-".repeat(57) + "x<0]", -119);
        take(check, "[" + "x-x+".repeat(29) + "0<]", -120);
        take(check, "[" + "x-x+".repeat(28) + "x<2]", 1);
    }

    private static void ends(Due check) {
        String text = "&Ey![2:2y-x+12][-x=x-15]";
        for (int length = 0; length < text.length(); length++) {
            take(check, text.substring(0, length), -1 - length);
        }
        take(check, text, 2);
        take(check, text + "!", -1 - text.length());
        take(check, text + " ", 2);
    }

    private static void whatStays(Due check) {
        LineClaims claims = check.with("[x=4]");
        check.take(claims, "&[x=5]![x=6", -12);
        check.due("next(0) after a faulty one", claims.next(0), 4);
        check.due("free() after a faulty one", claims.free(), true);
        check.due("take() of nothing after a faulty one", claims.take(), -1);
        check.take(claims, "&Ey[y<x]EyEz[y<z]", -18);
        check.due("next(0) after a faulty one", claims.next(0), 4);
        check.take(claims, "Ay[y<1]]", -8);
        check.due("free() after a faulty one", claims.free(), true);
        check.take(claims, "[x=6]", 1);
        check.due("next(0)", claims.next(0), 6);
        check.due("take() of nothing after a sound one", claims.take(), -1);
        check.due("next(0)", claims.next(0), 6);
        check.type(claims, "[x=8]");
        check.due("next(0) before the take", claims.next(0), 6);
        check.due("take()", claims.take(), 1);
        check.due("next(0) after the take", claims.next(0), 8);
    }
}
