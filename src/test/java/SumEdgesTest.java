/** The edges of a claim in [ ]: divisors, signs, digits, variables, and where each fault is. */
public final class SumEdgesTest {
    private static final String[] BEFORE = {"[", "[x<", "[x=", "[2:", "[3:", "[x+", "[x-", "[2x<x+", "[-x=x-"};

    private final Due check = new Due();

    public static void main(String[] args) {
        SumEdgesTest test = new SumEdgesTest();
        test.relations();
        test.divisors();
        test.onlyOneRelation();
        test.signsBeforeTheFirst();
        test.signsBetween();
        test.digitsOfNumbers();
        test.digitsOfVariables();
        test.variables();
        test.emptySums();
        test.check.end();
    }

    /** A sum with this part in it, so that the fault (if place is not below 0) is at place in the part. */
    private void part(String before, String part, int place) {
        boolean second = before.indexOf('<') >= 0 || before.indexOf('=') >= 0 || before.indexOf(':') >= 0;
        String text = "EyEz" + before.replace('x', 'z') + part + (second ? "]" : "<1]");
        check.take(text, place < 0 ? 1 : -1 - (4 + before.length() + place));
    }

    private void inEachPlace(String part, int place) {
        for (String before : BEFORE) {
            part(before, part, place);
        }
    }

    private void relations() {
        check.about("[ sum < sum ], [ sum = sum ], [ d : sum ]");
        for (char c = 32; c <= 126; c++) {
            boolean partGoesOn = c == ' ' || c == '+' || c == '-';
            boolean sound = c == '<' || c == '=';
            if (!partGoesOn) {
                check.take("[x" + c + "1]", sound ? 1 : -3);
            }
        }
        check.take("[2:1]", 1);
        check.take("[2<1]", 1);
        check.take("[2=1]", 1);
        check.take("[2>1]", -3);
    }

    private void divisors() {
        check.about("d, 2 or 3, divides it");
        for (int d = 0; d <= 9; d++) {
            check.take("[" + d + ":x]", d == 2 || d == 3 ? 1 : -3);
        }
        for (int d = 10; d <= 99; d++) {
            check.take("[" + d + ":x]", -4);
        }
        check.take("[02:x]", -4);
        check.take("[03:x]", -4);
        check.take("[-2:x]", -4);
        check.take("[-3:x]", -4);
        check.take("[1+1:x]", -5);
        check.take("[3-1:x]", -5);
        check.take("[2x:x]", -4);
        check.take("[x:2]", -3);
        check.take("[:2]", -2);
        for (int v = -1000; v <= 1000; v += 250) {
            check.due("holds(" + v + ") with [2:x+1]", check.with("[2:x+1]").holds(v), false);
            check.due("holds(" + v + ") with [2:2x]", check.with("[2:2x]").holds(v), true);
            check.due("holds(" + v + ") with [3:x]", check.with("[3:x]").holds(v), v % 3 == 0);
        }
        check.due("0 has each divisor", check.with("&[2:x][3:x]").holds(0), true);
    }

    private void onlyOneRelation() {
        check.about("one of <, =, : in a claim in [ ]");
        String[] first = {"[x<1", "[x=1", "[2:1", "[3:x"};
        for (String before : first) {
            check.take(before + "<1]", -1 - before.length());
            check.take(before + "=1]", -1 - before.length());
            check.take(before + ":1]", -1 - before.length());
            check.take(before + "]", 1);
        }
        check.take("[x<2:x]", -5);
        check.take("[2:3:x]", -5);
        check.take("[x]", -3);
        check.take("[2]", -3);
        check.take("[-3]", -4);
        check.take("[x+15]", -6);
    }

    private void signsBeforeTheFirst() {
        check.about("maybe a - before the first one");
        String[] starts = {"[", "[x<", "[x=", "[2:", "[3:"};
        for (String start : starts) {
            part(start, "y", -1);
            part(start, "-y", -1);
            part(start, "-2y", -1);
            part(start, "-9", -1);
            part(start, "+y", 0);
            part(start, "+9", 0);
            part(start, "--y", 1);
            part(start, "-+y", 1);
            part(start, "+-y", 0);
        }
    }

    private void signsBetween() {
        check.about("PARTS with + or - between them");
        inEachPlace("y+y", -1);
        inEachPlace("y-y", -1);
        inEachPlace("y++y", 2);
        inEachPlace("y+-y", 2);
        inEachPlace("y-+y", 2);
        inEachPlace("y--y", 2);
        inEachPlace("y*y", 1);
        inEachPlace("yy", 1);
        inEachPlace("yz", 1);
        inEachPlace("y7", 1);
        inEachPlace("y+]", 2);
        inEachPlace("y-]", 2);
        inEachPlace("7+]", 2);
    }

    private void digitsOfNumbers() {
        check.about("a number of one or two digits");
        inEachPlace("0", -1);
        inEachPlace("9", -1);
        inEachPlace("00", -1);
        inEachPlace("09", -1);
        inEachPlace("10", -1);
        inEachPlace("000", 2);
        inEachPlace("001", 2);
        inEachPlace("100", 2);
        inEachPlace("999", 2);
        inEachPlace("00-99+99", -1);
        inEachPlace("00-99+999", 8);
        inEachPlace("5-0005", 4);
    }

    private void digitsOfVariables() {
        check.about("maybe a digit (1 or 2), and a variable");
        for (int digit = 0; digit <= 9; digit++) {
            boolean sound = digit == 1 || digit == 2;
            inEachPlace(digit + "y", sound ? -1 : 1);
        }
        inEachPlace("01y", 2);
        inEachPlace("02y", 2);
        inEachPlace("10y", 2);
        inEachPlace("11y", 2);
        inEachPlace("12y", 2);
        inEachPlace("22y", 2);
        inEachPlace("1+y", -1);
        inEachPlace("y2", 1);
    }

    private void variables() {
        check.about("VARIABLES are x, y, z");
        for (char c = 33; c <= 126; c++) {
            boolean variable = c == 'x' || c == 'y' || c == 'z';
            check.take("E" + c + "[0<1]", variable ? 1 : -2);
            check.take("A" + c + "[0<1]", variable ? 1 : -2);
            boolean digit = c >= '0' && c <= '9';
            if (!digit) {
                check.take("EyEz[2" + c + "<1]", FaultModel.due("EyEz[2" + c + "<1]"));
                check.take("EyEz[1<2-" + c + "]", FaultModel.due("EyEz[1<2-" + c + "]"));
            }
        }
        check.take("[w<1]", -2);
        check.take("[x<1]", 1);
        check.take("Ez[z<1]", 1);
        check.take("Ez[{<1]", -4);
        check.take("[X<1]", -2);
        check.take("EX[X<1]", -2);
    }

    private void emptySums() {
        check.about("A SUM is PARTS");
        check.take("[]", -2);
        check.take("[<1]", -2);
        check.take("[=1]", -2);
        check.take("[x<]", -4);
        check.take("[x=]", -4);
        check.take("[2:]", -4);
        check.take("[3:]", -4);
        check.take("[-<1]", -3);
        check.take("[x<-]", -5);
        check.take("[2:-]", -5);
    }
}
