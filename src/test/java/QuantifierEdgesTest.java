/** The edges of quantifiers in one another and of free variables. */
public final class QuantifierEdgesTest {
    private static final String[] BETWEEN = {"", "!", "!!!", " ", "&[0<1]", "/[0<1]", ">[0<1]"};

    private final Due check = new Due();

    public static void main(String[] args) {
        QuantifierEdgesTest test = new QuantifierEdgesTest();
        test.twoInOneAnother();
        test.asFirstParts();
        test.besideOneAnother();
        test.freeYAndZ();
        test.boundOnlyInside();
        test.freeXWithOneQuantifier();
        test.freeXWithTwo();
        test.freeXWithTwoAndFaults();
        test.innermost();
        test.anyNumberOrNone();
        test.freeOrNot();
        test.check.end();
    }

    private void twoInOneAnother() {
        check.about("at most two in one another, a quantifier in two others at its first character");
        for (String first : BETWEEN) {
            for (String second : BETWEEN) {
                for (String kinds : new String[] {"EEE", "AAA", "EAE", "AEA"}) {
                    String two = kinds.charAt(0) + "x" + first + kinds.charAt(1) + "y" + second;
                    check.take(two + "[x<y]", 1 + brackets(two));
                    check.take(two + kinds.charAt(2) + "z[x<y]", -1 - two.length());
                    check.take(two + kinds.charAt(2) + "x[x<y]", -1 - two.length());
                    check.take(two + kinds.charAt(2) + "w[x<y]", -1 - two.length());
                    check.take(two + kinds.charAt(2), -1 - two.length());
                    check.take(two, -1 - two.length());
                }
            }
        }
    }

    private static int brackets(String text) {
        return text.length() - text.replace("[", "").length();
    }

    private void asFirstParts() {
        check.about("a quantifier in two others, as the first part of a pair");
        check.take("Ex&Ey&[0<1][0<1][0<1]", 3);
        check.take("Ex&Ey&Ez[0<1][0<1][0<1]", -1 - 6);
        check.take("Ex&Ey&[0<1]Ez[0<1][0<1]", -1 - 11);
        check.take("Ex&Ey&[0<1][0<1]Ez[0<1]", 3);
        check.take("Ex&Ey&[0<1][0<1]EzEx[0<1]", -1 - 18);
        check.take("&Ex&Ey[0<1][0<1]EzEx[0<1]", 3);
        check.take("&Ex&Ey[0<1][0<1]EzExEy[0<1]", -1 - 20);
    }

    private void besideOneAnother() {
        check.about("quantifiers beside one another are not in one another");
        check.take("&&&Ex[0<1]Ey[0<1]Ez[0<1]Ax[0<1]", 4);
        check.take("&&&Ex[0<x]Ey[x<y]Ez[x<z]Ax[0<1]", 4);
        check.take("&&ExEy[y<x]AyAz[y<z]EzEx[z<x]", 3);
        check.take("Ex&&Ey[y<x]Ay[y<x]Az[z<x]", 3);
    }

    private void freeYAndZ() {
        check.about("x alone may be free; y or z that is free at it");
        for (char variable = 'w'; variable <= '{'; variable++) {
            boolean x = variable == 'x';
            check.take("[" + variable + "<1]", x ? 1 : -1 - 1);
            check.take("[1<" + variable + "]", x ? 1 : -1 - 3);
            check.take("[2:" + variable + "]", x ? 1 : -1 - 3);
            check.take("[2" + variable + "<1]", x ? 1 : -1 - 2);
            check.take("[-1" + variable + "<1]", x ? 1 : -1 - 3);
            check.take("[x+" + variable + "=1]", x ? 1 : -1 - 3);
            check.take("[x- " + variable + "=1]", x ? 1 : -1 - 4);
        }
        check.take("[y-y=0]", -1 - 1);
        check.take("[0=z-z]", -1 - 3);
        check.take("Ex[y<x]", -1 - 3);
        check.take("Ey[z<y]", -1 - 3);
        check.take("Az[z<y]", -1 - 5);
        check.take("Ay[y<x]", 1);
    }

    private void boundOnlyInside() {
        check.about("the innermost quantifier over it that it stands in");
        check.take("&Ey[y<1][y<1]", -1 - 9);
        check.take("&[y<1]Ey[y<1]", -1 - 2);
        check.take("&Ey[y<1]Ey[y<1]", 2);
        check.take("&Ey[y<1]Ez[y<1]", -1 - 11);
        check.take("Ey&[y<1][y<1]", 2);
        check.take("!&!Ey[y<1]![y<1]", -1 - 12);
        check.take("Ey&Ey[y<1][y<1]", 2);
        check.take("Ey&Ez[z<y][z<y]", -1 - 11);
        check.take("Ey&Ez[z<y][y<1]", 2);
        check.take("&EyEz[z<y][z<0]", -1 - 11);
        check.take("&EyEy[y<0][y<0]", -1 - 11);
    }

    private void freeXWithOneQuantifier() {
        check.about("x alone may be free");
        check.take("Ey[y<x]", 1);
        check.take("&Ey[y<x]Az[z<x]", 2);
        check.take("&Ex[x<1][x<1]", 2);
        check.take("&&&Ey[y<x]Az[z<x]Ex[x<1][x<2]", 4);
        check.take("!Ay!/[y<x]![x<y]", 2);
    }

    private void freeXWithTwo() {
        check.about("if x is free, no quantifier is in another one: at its length");
        atLength("EyEz[x<1]");
        atLength("EyEz[y<x]");
        atLength("Ey!Az[x<1]");
        atLength("&[x<1]EyEz[y<z]");
        atLength("&EyEz[y<z][x<1]");
        atLength("&ExEy[x<y][x<1]");
        atLength("&[2:x]ExEy[x<y]");
        atLength("Ey&Ez[y<z][y<x]");
        atLength("Ey&[y<x]Ez[y<z]");
        atLength("EyEy[y<x]");
        atLength("&EyEz[y<z][x-x=0]");
        atLength("&Ey[y<x]ExEz[x<z]");
        check.take("ExEz[x<1]", 1);
        check.take("EyEx[x<1]", 1);
        check.take("EyEx[y<x]", 1);
        check.take("&Ex[x<1]EyEz[y<z]", 2);
        check.take("&ExEy[x<y]Ax[x<1]", 2);
        check.take("&[0<1]EyEz[y<z]", 2);
    }

    private void atLength(String text) {
        LineClaims claims = check.with("&[x=4][2:x]");
        check.take(claims, text, -1 - text.length());
        check.take(claims, text + "  ", -1 - text.length() - 2);
        check.take(claims, " " + text, -1 - text.length() - 1);
        check.due("next(0) after " + text, claims.next(0), 4);
        check.due("free() after " + text, claims.free(), true);
    }

    private void freeXWithTwoAndFaults() {
        check.about("at its length, if it is not faulty before");
        check.take("EyEz[x<1]]", -1 - 9);
        check.take("EyEz[x<1] ]", -1 - 10);
        check.take("&EyEz[x<1]", -1 - 10);
        check.take("&EyEz[x<1][w<1]", -1 - 11);
        check.take("&EyEz[x<1][y<1]", -1 - 11);
        check.take("&EyEz[x<1][16<1]", FaultModel.due("&EyEz[x<1][16<1]"));
        check.take("&EyEz[x<1][16<0]", -1 - 15);
        check.take("EyEzEx[x<1]", -1 - 4);
    }

    private void innermost() {
        check.about("A variable belongs to the innermost quantifier over it");
        some("ExAx[x=3]", false);
        some("AxEx[x=3]", true);
        some("Ax&[0<1]Ex[x=3]", true);
        some("Ex&[x=3]Ex[x=4]", true);
        some("Ex&[x=3]Ax[x=3]", false);
        some("Ex&Ax/[x<3][2<x][x=3]", true);
        some("Ey&[y=3]Ey&[y=4]![y=3]", true);
        some("Az>[z=3]Ez[z=4]", true);
        some("Az>[z=3]Az[z=3]", false);
        LineClaims claims = check.with("&[x<5]Ex[x=7]");
        check.due("last(1000)", claims.last(1000), 4);
        claims = check.with("&Ax/[x<7][6<x][x<5]");
        check.due("last(1000)", claims.last(1000), 4);
        claims = check.with("&[x<5]Ax[x<7]");
        check.due("some()", claims.some(), false);
    }

    private void some(String text, boolean want) {
        LineClaims claims = check.with(text);
        check.due("some() with " + text, claims.some(), want);
        check.due("all() with " + text, claims.all(), want);
        check.due("free() with " + text, claims.free(), false);
    }

    private void anyNumberOrNone() {
        check.about("any number does, or none, if x is not free");
        String[] so = {"[0<1]", "![0=1]", "Ex[x=3]", "AxEy[x<y]", "[3:15]", "&[0=0]Ay/[y<1][0<y]"};
        String[] notSo = {"[1<0]", "[0=1]", "Ax[x=3]", "ExAy[x<y]", "[2:15]", ">[0=0]Ay[0<y]"};
        for (int i = 0; i < so.length; i++) {
            constant(check.with(so[i]), so[i], true);
            constant(check.with(notSo[i]), notSo[i], false);
        }
    }

    private void constant(LineClaims claims, String text, boolean so) {
        check.due("free() with " + text, claims.free(), false);
        check.due("some() with " + text, claims.some(), so);
        check.due("all() with " + text, claims.all(), so);
        check.due("again(true) with " + text, claims.again(true), so);
        check.due("again(false) with " + text, claims.again(false), so);
        check.due("period() with " + text, claims.period(), 1);
        check.due("count(-1000, -901) with " + text, claims.count(-1000, -901), so ? 100 : 0);
        check.due("count(901, 1000) with " + text, claims.count(901, 1000), so ? 100 : 0);
        for (int v = -1001; v <= 1001; v += 91) {
            boolean near = v >= -1000 && v <= 1000;
            check.due("holds(" + v + ") with " + text, claims.holds(v), so && near);
            check.due("next(" + v + ") with " + text, claims.next(v), so && near ? v : 1000000);
            check.due("last(" + v + ") with " + text, claims.last(v), so && near ? v : -1000000);
        }
    }

    private void freeOrNot() {
        check.about("Whether x is free in the claim");
        free("[x<1]", true);
        free("[0<1]", false);
        free("[x-x=0]", true);
        free("[0=2x-x-x]", true);
        free("[2:2x]", true);
        free("Ex[x<1]", false);
        free("Ey[x<1]", true);
        free("Ey[y<1]", false);
        free("&Ex[x<1][0<1]", false);
        free("&Ex[x<1][x<1]", true);
        free("&[x<1]Ex[x<1]", true);
        free("!!>[0<1]![x=15]", true);
        free("AxEx[x<1]", false);
        LineClaims claims = check.with("&[x<1]Ey[y=x]");
        check.due("free() of the first claim", claims.free(), true);
        check.take(claims, "&[0<1]Ey![0=1]", 2);
        check.due("free() of the second claim", claims.free(), false);
        check.take(claims, "&[0<1]Ey![0=x", -1 - 13);
        check.due("free() after a faulty one", claims.free(), false);
    }

    private void free(String text, boolean want) {
        check.due("free() with " + text, check.with(text).free(), want);
    }
}
