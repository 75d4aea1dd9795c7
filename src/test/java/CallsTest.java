/** "An object is used for at most 512 calls": the 512th call still answers as the first would. */
public final class CallsTest {
    private static final int CALLS = 512;

    private final Due check = new Due();

    public static void main(String[] args) {
        CallsTest test = new CallsTest();
        test.check.about("at most 512 calls after it has been made");
        test.takesAll();
        test.claimAfterClaim();
        test.takeAsTheLast();
        test.typeAsTheLast();
        test.questionsAll();
        test.dearestTakes();
        test.check.end();
    }

    private void takesAll() {
        LineClaims claims = new LineClaims();
        for (int call = 1; call <= CALLS; call++) {
            check.due("take() of nothing as call " + call, claims.take(), -1);
        }
    }

    private void claimAfterClaim() {
        LineClaims claims = new LineClaims();
        for (int call = 4; call <= CALLS; call += 4) {
            int number = call / 4 % 10;
            check.due("type", claims.type(Due.word("[x=") << 8 | '0' + number, 4), true);
            check.due("type", claims.type(']', 1), true);
            check.due("take()", claims.take(), 1);
            check.due("next(-1000) as call " + call, claims.next(-1000), number);
        }
    }

    private void takeAsTheLast() {
        LineClaims claims = new LineClaims();
        check.type(claims, "[x=7");
        check.type(claims, "]" + " ".repeat(115));
        for (int call = 31; call < CALLS; call++) {
            check.due("type beyond 120 as call " + call, claims.type(' ', 1), false);
        }
        check.due("take() as call 512", claims.take(), 1);
    }

    private void typeAsTheLast() {
        LineClaims claims = new LineClaims();
        for (int call = 1; call < CALLS; call++) {
            check.due("type of a wrong one as call " + call, claims.type(31, 1), false);
        }
        check.due("type as call 512", claims.type(' ', 1), true);
    }

    private void questionsAll() {
        LineClaims claims = new LineClaims();
        check.take(claims, "![2:x]", 1);
        int call = 3;
        while (call + 9 <= CALLS) {
            check.due("free()", claims.free(), true);
            check.due("holds(-999)", claims.holds(-999), true);
            check.due("some()", claims.some(), true);
            check.due("all()", claims.all(), false);
            check.due("next(1000)", claims.next(1000), 1001);
            check.due("last(-1000)", claims.last(-1000), -1001);
            check.due("again(" + (call % 2 == 0) + ")", claims.again(call % 2 == 0), true);
            check.due("count(-1000, -901)", claims.count(-1000, -901), 50);
            check.due("period()", claims.period(), 2);
            call += 9;
        }
        while (call < CALLS) {
            call++;
            check.due("period() as call " + call, claims.period(), 2);
        }
    }

    /** Claims for which the most numbers must be looked at, as often as 512 calls allow. */
    private void dearestTakes() {
        dearTake("ExEy/[x+y<x+y]/[2x=2x+1]/[2y-x<2y-x]/[2:1][2x-2y=2x-2y+1]", 5);
        dearTake("Ey/[x+y<x+y]/[2x=2x+1]/[2y-x<2y-x]/[2:1][2x-2y=2x-2y+1]", 5);
        dearTake("Ey/[x+y<x+y]/[2:1][2y=2y+1]", 3);
    }

    private void dearTake(String text, int brackets) {
        LineClaims claims = new LineClaims();
        int round = (text.length() + 3) / 4 + 2;
        for (int calls = 0; calls + round <= CALLS; calls += round) {
            check.take(claims, text, brackets);
            check.due("some() with " + text, claims.some(), false);
        }
    }
}
