/** The edges of the coefficients (-2 .. 2) and of the numbers (-15 .. 15) of a claim in [ ], looked at at the ]. */
public final class RangeEdgesTest {
    private static final int WIDEST = 5;
    private static final char[] ORDERS = {'<', '='};

    private final Due check = new Due();

    public static void main(String[] args) {
        RangeEdgesTest test = new RangeEdgesTest();
        test.coefficients();
        test.coefficientsOfSeveral();
        test.coefficientsUnderDivisors();
        test.numbers();
        test.numbersUnderDivisors();
        test.numbersInParts();
        test.onlyAtTheEnd();
        test.eachClaimByItself();
        test.whatTheyCountFor();
        test.check.end();
    }

    /** A sum of 0 and so many of a variable, two of them a part. */
    private static String sum(int coefficient, char variable) {
        return "0" + more(coefficient, variable);
    }

    private static String more(int coefficient, char variable) {
        StringBuilder parts = new StringBuilder();
        for (int left = Math.abs(coefficient); left > 0; left -= 2) {
            parts.append(coefficient < 0 ? '-' : '+').append(left >= 2 ? "2" : "").append(variable);
        }
        return parts.toString();
    }

    private void closes(String text, boolean sound) {
        check.take(text, sound ? 1 : -text.length());
    }

    private void coefficients() {
        check.about("the COEFFICIENT of each variable must be -2 .. 2, those on the right with the opposite sign");
        for (int left = -WIDEST; left <= WIDEST; left++) {
            for (int right = -WIDEST; right <= WIDEST; right++) {
                for (char variable = 'x'; variable <= 'z'; variable++) {
                    for (char order : ORDERS) {
                        String text = "E" + variable + "[" + sum(left, variable) + order + sum(right, variable) + "]";
                        closes(text, Math.abs(left - right) <= 2);
                    }
                }
            }
        }
    }

    private void coefficientsOfSeveral() {
        check.about("of each variable");
        for (int first = -3; first <= 3; first++) {
            for (int second = -3; second <= 3; second++) {
                boolean sound = Math.abs(first) <= 2 && Math.abs(second) <= 2;
                closes("Ey[" + sum(first, 'x') + "<" + sum(second, 'y') + "]", sound);
                closes("EyEz[" + sum(first, 'y') + more(second, 'z') + "=1]", sound);
                closes("AzEx[3:" + sum(first, 'z') + more(second, 'x') + "]", sound);
            }
        }
    }

    private void coefficientsUnderDivisors() {
        check.about("in each claim in [ ], those under a divisor too");
        for (int coefficient = -WIDEST; coefficient <= WIDEST; coefficient++) {
            boolean sound = Math.abs(coefficient) <= 2;
            closes("[2:" + sum(coefficient, 'x') + "]", sound);
            closes("[3:" + sum(coefficient, 'x') + "]", sound);
            closes("Ey[3:" + sum(coefficient, 'y') + "]", sound);
            closes("Az[2:" + sum(coefficient, 'z') + "]", sound);
        }
    }

    private void numbers() {
        check.about("what comes of all numbers -15 .. 15, those on the right with the opposite sign");
        for (int left = -18; left <= 18; left++) {
            for (int right = -18; right <= 18; right++) {
                for (char order : ORDERS) {
                    closes("[" + left + order + right + "]", Math.abs(left - right) <= 15);
                }
            }
            for (char order : ORDERS) {
                closes("[x" + order + left + "]", Math.abs(left) <= 15);
                closes("[" + left + order + "x]", Math.abs(left) <= 15);
            }
        }
    }

    private void numbersUnderDivisors() {
        check.about("what comes of all numbers, under a divisor too");
        for (int number = -99; number <= 99; number++) {
            closes("[2:" + number + "]", Math.abs(number) <= 15);
            closes("[3:" + number + "+x]", Math.abs(number) <= 15);
        }
    }

    private void numbersInParts() {
        check.about("what comes of all numbers");
        closes("[5+5+5<x]", true);
        closes("[5+5+6<x]", false);
        closes("[x<5+5+5]", true);
        closes("[x<5+5+6]", false);
        closes("[-5-5-5=x]", true);
        closes("[-5-5-6=x]", false);
        closes("[8<x-7]", true);
        closes("[8<x-8]", false);
        closes("[-8<x+7]", true);
        closes("[-8<x+8]", false);
        closes("[99<x+84]", true);
        closes("[99<x+83]", false);
        closes("[84-99<x]", true);
        closes("[83-99<x]", false);
        closes("[3:99-84]", true);
        closes("[3:99-83]", false);
        closes("[3:x-99+84]", true);
        closes("[3:x-99+83]", false);
    }

    private void onlyAtTheEnd() {
        check.about("both looked at at the ]");
        closes("[2x+2x+2x-2x-2x<0]", true);
        closes("[-2x-2x-2x+2x+2x<0]", true);
        closes("[2x+2x<2x]", true);
        closes("[99+99+99-99-99-84<x]", true);
        closes("[99<x+99]", true);
        closes("[x+99<99]", true);
        check.take("[x+x+x", -7);
        check.take("[x+x+x<", -8);
        check.take("[x+x+x<1", -9);
        check.take("[x+x+x<1]", -9);
        check.take("[x+x+x<y]", -8);
        check.take("[x+x+x:1]", -7);
        check.take("[99", -4);
        check.take("[99<", -5);
        check.take("[99<x", -6);
        check.take("[99<x]", -6);
        check.take("[99<x ]", -7);
        check.take("[99<x  ", -8);
        check.take("[99<x[", -6);
    }

    private void eachClaimByItself() {
        check.about("In each claim in [ ]");
        check.take("&[2x<15][2x<15]", 2);
        check.take("&[-2x<-15]/[2:2x+15][3:2x+15]", 3);
        check.take("&[2x<15][2x+x<15]", -17);
        check.take("&[2x<15][2x<16]", -15);
        check.take("&[2x<16][2x<15]", -8);
        LineClaims claims = new LineClaims();
        check.take(claims, "[2x+15<0+y", -10);
        check.take(claims, "[2x+15<0", -9);
        check.take(claims, "[2x+15<0]", 1);
        check.take(claims, "[2x+15<0]", 1);
    }

    /** The same bound written on either side and in parts. */
    private void whatTheyCountFor() {
        check.about("what comes of all its parts");
        String[] same = {"[x<15]", "[x-15<0]", "[0<15-x]", "[-15<-x]", "[2x+5<x+20]", "[x+99<99+15]", "[2x-x-5-5<5]"};
        for (String text : same) {
            LineClaims claims = check.with(text);
            check.due("last(1000) with " + text, claims.last(1000), 14);
            check.due("next(15) with " + text, claims.next(15), 1000000);
        }
        String[] twice = {"[2x=-14]", "[x+x=-14]", "[x=-x-14]", "[-14=1x+1x]", "[0=-2x-14]", "[x+2x+14=x]"};
        for (String text : twice) {
            LineClaims claims = check.with(text);
            check.due("next(-1000) with " + text, claims.next(-1000), -7);
            check.due("last(1000) with " + text, claims.last(1000), -7);
        }
    }
}
