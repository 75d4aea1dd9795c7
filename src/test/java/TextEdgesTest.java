/** The edges of a text and of type: the characters, the bytes, the 120, and spaces. */
public final class TextEdgesTest {
    private static final int LIMIT = 120;
    private static final String SOUND = "&Ey![2:2y-x+12][-x=x-14]";

    private final Due check = new Due();

    public static void main(String[] args) {
        TextEdgesTest test = new TextEdgesTest();
        test.characters();
        test.onlyTheLowestBytes();
        test.numbersOfBytes();
        test.theHighestFirst();
        test.room();
        test.roomAfterTake();
        test.spacesCountForNothing();
        test.spacesAndFaults();
        test.spacesAlone();
        test.check.end();
    }

    private void characters() {
        check.about("one of them is not 32 .. 126");
        for (int n = 1; n <= 4; n++) {
            for (int place = 0; place < n; place++) {
                for (int character = 0; character <= 255; character++) {
                    oneCharacter(n, place, character);
                }
            }
        }
    }

    private void oneCharacter(int n, int place, int character) {
        int shift = 8 * (n - 1 - place);
        int word = Due.word("!".repeat(n)) & ~(255 << shift) | character << shift;
        boolean allowed = character >= 32 && character <= 126;
        LineClaims claims = new LineClaims();
        check.due("type of " + character + " at " + place + " of " + n, claims.type(word, n), allowed);
        String there = allowed ? "!".repeat(place) + (char) character + "!".repeat(n - 1 - place) : "";
        check.due("take() after it", claims.take(), FaultModel.due(there));
    }

    private void onlyTheLowestBytes() {
        check.about("the n lowest bytes of word");
        int[] others = {0, 31, 32, 126, 127, 128, 255};
        for (int n = 1; n <= 3; n++) {
            for (int other : others) {
                LineClaims claims = new LineClaims();
                int above = (other | other << 8 | other << 16 | other << 24) << 8 * n;
                check.due("type of " + n + " below " + other, claims.type(above | Due.word("!".repeat(n)), n), true);
                check.due("take() after it", claims.take(), -1 - n);
            }
        }
    }

    private void numbersOfBytes() {
        check.about("false, refused, if n is not 1 .. 4");
        int[] numbers = {Integer.MIN_VALUE, -5, -4, -1, 0, 1, 2, 3, 4, 5, 6, 8, 32, 33, 256, Integer.MAX_VALUE};
        for (int n : numbers) {
            boolean allowed = n >= 1 && n <= 4;
            LineClaims claims = new LineClaims();
            check.due("type of n = " + n, claims.type(Due.word("!!!!"), n), allowed);
            check.due("take() after it", claims.take(), allowed ? -1 - n : -1);
        }
    }

    private void theHighestFirst() {
        check.about("the highest of them first");
        for (int n = 1; n <= 4; n++) {
            LineClaims claims = new LineClaims();
            String text = "&[x<12]!/[2:x][x=-3]";
            for (int i = 0; i < text.length(); i += n) {
                String piece = text.substring(i, Math.min(i + n, text.length()));
                check.due("type of " + piece, claims.type(Due.word(piece), piece.length()), true);
            }
            check.due("take() of " + n + " a call", claims.take(), 3);
            check.due("last(1000)", claims.last(1000), 11);
            check.due("next(-4)", claims.next(-4), -1);
        }
    }

    private void room() {
        check.about("or more than 120 would be there");
        for (int length = LIMIT - 8; length <= LIMIT; length++) {
            for (int n = 1; n <= 4; n++) {
                boolean allowed = length + n <= LIMIT;
                LineClaims claims = new LineClaims();
                check.type(claims, " ".repeat(length));
                check.due("type of " + n + " behind " + length, claims.type(0x20202020, n), allowed);
                check.due("take() after it", claims.take(), -1 - (allowed ? length + n : length));
            }
        }
        LineClaims claims = new LineClaims();
        check.type(claims, " ".repeat(115) + "[x=7");
        check.due("type of two too many", claims.type(Due.word("]  "), 3), false);
        check.due("type of one too many", claims.type(Due.word("] "), 2), false);
        check.due("type of the 120th", claims.type(Due.word("]"), 1), true);
        check.due("type of a 121st", claims.type(Due.word(" "), 1), false);
        check.due("take() of 120", claims.take(), 1);
        check.due("next(-1000)", claims.next(-1000), 7);
    }

    private void roomAfterTake() {
        check.about("nothing is typed then");
        String sound = " ".repeat(115) + "[x=7]";
        String faulty = " ".repeat(115) + "[x=7!";
        LineClaims claims = new LineClaims();
        check.take(claims, sound, 1);
        check.take(claims, faulty, -120);
        check.take(claims, sound, 1);
        check.due("take() of nothing after a sound one", claims.take(), -1);
        check.take(claims, faulty, -120);
        check.due("take() of nothing after a faulty one", claims.take(), -1);
    }

    private void spacesCountForNothing() {
        check.about("spaces count for nothing");
        same(SOUND);
        same("   " + SOUND + "   ");
        for (int place = 0; place <= SOUND.length(); place++) {
            same(SOUND.substring(0, place) + " " + SOUND.substring(place));
            same(SOUND.substring(0, place) + "     " + SOUND.substring(place));
        }
        StringBuilder wide = new StringBuilder();
        for (char c : SOUND.toCharArray()) {
            wide.append("  ").append(c).append(' ');
        }
        same(wide.toString());
    }

    private void same(String spaced) {
        LineClaims plain = check.with(SOUND);
        LineClaims claims = new LineClaims();
        check.take(claims, spaced, 2);
        for (int v = -20; v <= 20; v++) {
            check.due("holds(" + v + ") with " + spaced, claims.holds(v), plain.holds(v));
        }
        check.due("some() with " + spaced, claims.some(), plain.some());
        check.due("free() with " + spaced, claims.free(), true);
    }

    private void spacesAndFaults() {
        check.about("faulty at p, spaces being characters of the text");
        String[] faulty = {"[x<1]]", "[123<x]", "[16<x]", "[y<1]", "ExEyEz[x<y]", "&[x<1]EyEz[y<z]", "[x<1", "E[x<1]"};
        for (String text : faulty) {
            int p = -1 - FaultModel.due(text);
            check.take(text, -1 - p);
            for (int place = 0; place <= text.length(); place++) {
                String spaced = text.substring(0, place) + " " + text.substring(place);
                check.take(spaced, -1 - (place <= p ? p + 1 : p));
            }
        }
    }

    private void spacesAlone() {
        check.about("the end at its length");
        for (int length = 0; length <= LIMIT; length++) {
            LineClaims claims = check.with("[x=2]");
            check.take(claims, " ".repeat(length), -1 - length);
            check.due("next(-9) after " + length + " spaces", claims.next(-9), 2);
        }
    }
}
