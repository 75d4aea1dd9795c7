/**
 * "A call that is refused changes nothing": two objects get the same calls, one of them refused ones
 * (and questions, which change nothing either) in between, and must answer alike for ever after.
 */
public final class RefusedTest {
    private static final String[] CLAIMS = {
        "[0<1]", "[x=4]", "[2:x+1]", "&[x<9]![x<3]", "Ey&[2y=x][3:y]", "AxEy/[2y=x][2y=x+1]", "[x<1", "&[x<1]EyEz[y<z]"};
    private static final int[][] COUNTS = {
        {-1001, -1000}, {-1000, -1001}, {1000, 1001}, {1001, 1000}, {1001, 1001}, {-1001, -1001}, {5, 3}, {5, 105},
        {0, 100}, {-1000, 1000}, {1000, -1000}, {Integer.MIN_VALUE, Integer.MAX_VALUE}, {Integer.MAX_VALUE, Integer.MIN_VALUE},
        {Integer.MIN_VALUE, Integer.MIN_VALUE}, {Integer.MAX_VALUE, Integer.MAX_VALUE}};
    private static final int[] NUMBERS = {-1001, 1001, Integer.MIN_VALUE, Integer.MAX_VALUE, -1000, 1000, 0};

    private final Due check = new Due();

    public static void main(String[] args) {
        RefusedTest test = new RefusedTest();
        for (int kind = 0; kind < 5; kind++) {
            for (String before : CLAIMS) {
                for (String after : CLAIMS) {
                    test.twins(kind, before, after);
                }
            }
        }
        test.full();
        test.check.end();
    }

    private void disturb(int kind, LineClaims claims) {
        switch (kind) {
            case 0: wrongNumbersOfBytes(claims); break;
            case 1: wrongCharacters(claims); break;
            case 2: wrongCounts(claims); break;
            case 3: numbersOutside(claims); break;
            default: questions(claims); break;
        }
    }

    private void wrongNumbersOfBytes(LineClaims claims) {
        check.about("type refused for n");
        int[] wrong = {0, 5, -1, Integer.MIN_VALUE, Integer.MAX_VALUE};
        for (int n : wrong) {
            check.due("type of n = " + n, claims.type(Due.word("!!!!"), n), false);
        }
    }

    private void wrongCharacters(LineClaims claims) {
        check.about("type refused for a character");
        int[] wrong = {0, 31, 127, 255};
        for (int character : wrong) {
            for (int n = 1; n <= 4; n++) {
                for (int place = 0; place < n; place++) {
                    int word = Due.word("!!!!") & ~(255 << 8 * place) | character << 8 * place;
                    check.due("type of " + character + " at " + place + " of " + n, claims.type(word, n), false);
                }
            }
        }
    }

    private void wrongCounts(LineClaims claims) {
        check.about("count refused");
        for (int[] ends : COUNTS) {
            check.due("count(" + ends[0] + ", " + ends[1] + ")", claims.count(ends[0], ends[1]), -1);
        }
    }

    private void numbersOutside(LineClaims claims) {
        check.about("v outside -1000 .. 1000");
        int[] outside = {-1001, 1001, Integer.MIN_VALUE, Integer.MAX_VALUE};
        for (int v : outside) {
            check.due("holds(" + v + ")", claims.holds(v), false);
            check.due("next(" + v + ")", claims.next(v), 1000000);
            check.due("last(" + v + ")", claims.last(v), -1000000);
        }
    }

    private void questions(LineClaims claims) {
        claims.free();
        claims.some();
        claims.all();
        claims.period();
        claims.again(true);
        claims.again(false);
        claims.count(-50, 49);
        claims.holds(3);
        claims.next(-1000);
        claims.last(1000);
    }

    private void twins(int kind, String before, String after) {
        LineClaims plain = new LineClaims();
        LineClaims disturbed = new LineClaims();
        disturb(kind, disturbed);
        feed(plain, before);
        feed(disturbed, before);
        check.due("take() of " + before, disturbed.take(), plain.take());
        alike(plain, disturbed);
        disturb(kind, disturbed);
        alike(plain, disturbed);
        int half = after.length() / 2;
        feed(plain, after.substring(0, half));
        feed(disturbed, after.substring(0, half));
        disturb(kind, disturbed);
        alike(plain, disturbed);
        feed(plain, after.substring(half));
        feed(disturbed, after.substring(half));
        check.due("take() of " + after + " with others between", disturbed.take(), plain.take());
        disturb(kind, disturbed);
        alike(plain, disturbed);
        check.due("take() of nothing", disturbed.take(), -1);
    }

    private void feed(LineClaims claims, String text) {
        check.type(claims, text);
    }

    private void alike(LineClaims plain, LineClaims disturbed) {
        check.due("free()", disturbed.free(), plain.free());
        check.due("some()", disturbed.some(), plain.some());
        check.due("all()", disturbed.all(), plain.all());
        check.due("period()", disturbed.period(), plain.period());
        check.due("again(true)", disturbed.again(true), plain.again(true));
        check.due("again(false)", disturbed.again(false), plain.again(false));
        for (int v : NUMBERS) {
            check.due("holds(" + v + ")", disturbed.holds(v), plain.holds(v));
            check.due("next(" + v + ")", disturbed.next(v), plain.next(v));
            check.due("last(" + v + ")", disturbed.last(v), plain.last(v));
        }
        for (int v = -12; v <= 12; v++) {
            check.due("holds(" + v + ")", disturbed.holds(v), plain.holds(v));
        }
        check.due("count(-50, 49)", disturbed.count(-50, 49), plain.count(-50, 49));
    }

    /** Typing beyond 120 is refused as a whole, however much of it would have had room. */
    private void full() {
        check.about("type refused for the 120");
        for (int room = 0; room <= 3; room++) {
            LineClaims claims = check.with("[x=-8]");
            check.type(claims, "[x=6]" + " ".repeat(115 - room));
            for (int n = room + 1; n <= 4; n++) {
                check.due("type of " + n + " with room for " + room, claims.type(Due.word("!!!!"), n), false);
                check.due("next(-1000) after it", claims.next(-1000), -8);
            }
            for (int i = 0; i < room; i++) {
                check.due("type of one", claims.type(Due.word(" "), 1), true);
            }
            check.due("type of one more", claims.type(Due.word(" "), 1), false);
            check.due("take()", claims.take(), 1);
            check.due("next(-1000)", claims.next(-1000), 6);
        }
    }
}
