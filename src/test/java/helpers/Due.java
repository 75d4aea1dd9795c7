/** Tells every call whose answer is not the one that is due, and ends with exit code 1 if there was one. */
final class Due {
    private static final int TOLD = 20;

    private int wrong = 0;
    private int asked = 0;
    private String sentence = "";

    /** What the answers from here on are about: a sentence of the document, told with each wrong one. */
    void about(String words) {
        sentence = "(" + words + ") ";
    }

    void due(String call, long got, long want) {
        asked++;
        if (got != want) {
            wrong++;
            if (wrong <= TOLD) {
                System.out.println(sentence + call + " answered " + got + ", due is " + want);
            }
        }
    }

    void due(String call, boolean got, boolean want) {
        due(call, got ? 1 : 0, want ? 1 : 0);
    }

    void end() {
        System.out.println(wrong == 0 ? asked + " answers are as due" : wrong + " answers are not as due");
        if (wrong != 0) {
            System.exit(1);
        }
    }

    /** Types a text, four characters a call. */
    void type(LineClaims claims, String text) {
        for (int i = 0; i < text.length(); i += 4) {
            String piece = text.substring(i, Math.min(i + 4, text.length()));
            due("type of \"" + piece + "\" in \"" + text + "\"", claims.type(word(piece), piece.length()), true);
        }
    }

    void take(LineClaims claims, String text, int want) {
        type(claims, text);
        due("take of \"" + text + "\"", claims.take(), want);
    }

    /** The same on an object of its own. */
    void take(String text, int want) {
        take(new LineClaims(), text, want);
    }

    /** A new object with the claim of a text that is not faulty. */
    LineClaims with(String text) {
        LineClaims claims = new LineClaims();
        type(claims, text);
        due("whether \"" + text + "\" is taken", claims.take() > 0, true);
        return claims;
    }

    static int word(String piece) {
        int word = 0;
        for (int i = 0; i < piece.length(); i++) {
            word = word << 8 | piece.charAt(i);
        }
        return word;
    }
}
