/** Promise 2: type. */
public final class TypeTest {
    private static final int[] WRONG = {0, 9, 10, 31, 127, 128, 160, 255};

    public static void main(String[] args) {
        Due check = new Due();
        bytesFromTheHighest(check);
        wrongNumbersOfBytes(check);
        wrongCharacters(check);
        allowedCharacters(check);
        atMost120(check);
        check.end();
    }

    private static void bytesFromTheHighest(Due check) {
        LineClaims claims = new LineClaims();
        check.due("type one", claims.type(0x7A7A7A5B, 1), true);
        check.due("type two", claims.type(0x7A7A313C, 2), true);
        check.due("type three", claims.type(0xFF000000 | Due.word("2-x"), 3), true);
        check.due("type one more", claims.type(Due.word("]"), 1), true);
        check.due("take() of [1<2-x]", claims.take(), 1);
        check.due("last(5)", claims.last(5), 0);
        check.due("type four", claims.type(Due.word("[x=7"), 4), true);
        check.due("type the rest", claims.type(Due.word("]"), 1), true);
        check.due("take() of [x=7]", claims.take(), 1);
        check.due("next(0)", claims.next(0), 7);
    }

    private static void wrongNumbersOfBytes(Due check) {
        LineClaims claims = new LineClaims();
        int[] wrong = {0, -1, 5, 8, 33, Integer.MIN_VALUE, Integer.MAX_VALUE, -4};
        for (int n : wrong) {
            check.due("type of n = " + n, claims.type(Due.word("[[[["), n), false);
        }
        check.due("take() of nothing", claims.take(), -1);
    }

    private static void wrongCharacters(Due check) {
        for (int wrong : WRONG) {
            for (int n = 1; n <= 4; n++) {
                for (int place = 0; place < n; place++) {
                    int word = Due.word("!!!!") & ~(255 << 8 * place) | wrong << 8 * place;
                    LineClaims claims = new LineClaims();
                    check.type(claims, "[x=3");
                    check.due("type of " + wrong + " at " + place + " of " + n, claims.type(word, n), false);
                    check.take(claims, "]", 1);
                    check.due("next(0) after it", claims.next(0), 3);
                }
            }
            LineClaims claims = new LineClaims();
            check.due("type below the wrong one", claims.type(wrong << 24 | Due.word("!!!"), 3), true);
            check.due("take() of !!!", claims.take(), -4);
        }
    }

    private static void allowedCharacters(Due check) {
        for (int character = 32; character <= 126; character++) {
            LineClaims claims = new LineClaims();
            check.due("type of " + character, claims.type(character, 1), true);
            check.due("take() of " + character, claims.take(), FaultModel.due(String.valueOf((char) character)));
        }
    }

    private static void atMost120(Due check) {
        LineClaims claims = new LineClaims();
        for (int i = 0; i < 29; i++) {
            check.due("type of four spaces", claims.type(0x20202020, 4), true);
        }
        check.due("type up to 118", claims.type(0x2020, 2), true);
        check.due("type beyond by two", claims.type(0x20202020, 4), false);
        check.due("type beyond by one", claims.type(0x202020, 3), false);
        check.due("type up to 119", claims.type(0x20, 1), true);
        check.due("type beyond by one", claims.type(0x2020, 2), false);
        check.due("type up to 120", claims.type(0x20, 1), true);
        check.due("type beyond by one", claims.type(0x20, 1), false);
        check.due("take() of 120 spaces", claims.take(), -121);
        for (int i = 0; i < 30; i++) {
            String piece = i < 29 ? "    " : "[x=5";
            check.due("type after it", claims.type(Due.word(piece), 4), true);
        }
        check.due("type beyond by one", claims.type(Due.word("]"), 1), false);
        check.due("take() without the ]", claims.take(), -121);
        check.type(claims, " ".repeat(115) + "[x=5]");
        check.due("take() of 120", claims.take(), 1);
        check.due("next(0)", claims.next(0), 5);
    }
}
