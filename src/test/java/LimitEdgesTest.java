/** The edges of the claims in [ ] (8), of the claims in all (20), and of a text's end. */
public final class LimitEdgesTest {
    private static final int MOST_BRACKETS = 8;
    private static final int MOST_CLAIMS = 20;
    private static final String ATOM = "[0<1]";
    private static final String[] BEGINNINGS = {"[0<1]", "!", "&", "/", ">", "Ex", "Ay"};

    private final Due check = new Due();

    public static void main(String[] args) {
        LimitEdgesTest test = new LimitEdgesTest();
        test.brackets();
        test.bracketsOfEachKind();
        test.claims();
        test.twentyFirstOfEachKind();
        test.countedWhenComeTo();
        test.whicheverIsFirst();
        test.countedAnew();
        test.everyPrefixEnds();
        test.nothingBehindTheEnd();
        test.claimsBegin();
        test.check.end();
    }

    private void brackets() {
        check.about("at most 8 claims in [ ], a ninth one at its first character");
        for (char pair : "&/>".toCharArray()) {
            for (int n = 1; n <= MOST_BRACKETS + 2; n++) {
                String ahead = String.valueOf(pair).repeat(n - 1) + ATOM.repeat(n);
                String between = (pair + ATOM).repeat(n - 1) + ATOM;
                boolean sound = n <= MOST_BRACKETS;
                check.take(ahead, sound ? n : -1 - (n - 1 + MOST_BRACKETS * ATOM.length()));
                check.take(between, sound ? n : -1 - ninthPlace(between));
            }
        }
    }

    private static int ninthPlace(String text) {
        int place = -1;
        for (int i = 0; i <= MOST_BRACKETS; i++) {
            place = text.indexOf('[', place + 1);
        }
        return place;
    }

    private void bracketsOfEachKind() {
        check.about("a ninth claim in [ ], of whatever kind");
        String[] kinds = {"[x<1]", "[x=1]", "[2:x]", "[3:x]"};
        for (String kind : kinds) {
            for (String ninth : kinds) {
                check.take("&".repeat(7) + kind.repeat(7) + ninth, 8);
                check.take("&".repeat(8) + kind.repeat(8) + ninth, -1 - 48);
                check.take("&".repeat(8) + kind.repeat(8) + "!" + ninth, -1 - 49);
                check.take("&".repeat(8) + kind.repeat(8) + "Ex " + ninth, -1 - 51);
            }
        }
        check.take("&".repeat(8) + ATOM.repeat(8), -1 - 48);
        check.take("&".repeat(8) + ATOM.repeat(8) + "[", -1 - 48);
        check.take("&".repeat(8) + ATOM.repeat(8) + "]", -1 - 48);
    }

    private void claims() {
        check.about("at most 20 claims in all, a 21st one at its first character");
        for (int n = 1; n <= MOST_CLAIMS + 2; n++) {
            check.take("!".repeat(n - 1) + ATOM, n <= MOST_CLAIMS ? 1 : -1 - MOST_CLAIMS);
        }
        for (int nots = 0; nots <= 10; nots++) {
            int all = nots + 15;
            int too = all - MOST_CLAIMS;
            check.take("&".repeat(7) + "!".repeat(nots) + ATOM.repeat(8),
                too <= 0 ? 8 : -1 - (7 + nots + (8 - too) * ATOM.length()));
            check.take("!".repeat(nots) + "/".repeat(7) + ATOM.repeat(8),
                too <= 0 ? 8 : -1 - (7 + nots + (8 - too) * ATOM.length()));
        }
        check.take("!".repeat(18) + "Ex" + ATOM, 1);
        check.take("!".repeat(19) + "Ex" + ATOM, -1 - 21);
        check.take("!".repeat(17) + "ExEy" + ATOM, 1);
        check.take("!".repeat(18) + "ExEy" + ATOM, -1 - 22);
        check.take("!".repeat(17) + ">" + ATOM + ATOM, 2);
        check.take("!".repeat(18) + ">" + ATOM + ATOM, -1 - 24);
    }

    private void twentyFirstOfEachKind() {
        check.about("a 21st claim, of whatever kind");
        for (String beginning : BEGINNINGS) {
            int due = beginning.equals(ATOM) ? 1 : -1 - (19 + beginning.length());
            check.take("!".repeat(19) + beginning, due);
            check.take("!".repeat(20) + beginning, -1 - 20);
            check.take("!".repeat(20) + "  " + beginning, -1 - 22);
        }
        check.take("!".repeat(20), -1 - 20);
        check.take("!".repeat(20) + "?", -1 - 20);
    }

    private void countedWhenComeTo() {
        check.about("each counting when it is come to");
        check.take("&".repeat(20), -1 - 20);
        check.take("&".repeat(21), -1 - 20);
        check.take("&".repeat(19) + ATOM, -1 - 24);
        check.take("&".repeat(19) + ATOM + ATOM, -1 - 24);
        check.take("&".repeat(15) + ATOM.repeat(5), -1 - 40);
        check.take("&".repeat(15) + ATOM.repeat(6), -1 - 40);
        check.take("!".repeat(19) + "[y<1]", -1 - 20);
        check.take("!".repeat(19) + "[0<1", -1 - 23);
        check.take("!".repeat(19) + "E", -1 - 20);
        check.take("!".repeat(19) + "Ew", -1 - 20);
    }

    private void whicheverIsFirst() {
        check.about("at the first character that cannot be as it is");
        check.take("&".repeat(12) + ATOM.repeat(9), -1 - 52);
        check.take("&".repeat(11) + ATOM.repeat(10), -1 - 51);
        check.take("&".repeat(13) + ATOM.repeat(9), -1 - 48);
        check.take("!!!!" + "&".repeat(8) + ATOM.repeat(9), -1 - 52);
        check.take("!!!!!" + "&".repeat(8) + ATOM.repeat(9), -1 - 48);
        check.take("&".repeat(8) + ATOM.repeat(7) + "[y<1]" + ATOM, -1 - 44);
        check.take("&".repeat(8) + ATOM.repeat(8) + "[y<1]", -1 - 48);
        check.take("[16<y]", -1 - 4);
        check.take("Ey[16<y]]", -1 - 7);
        check.take("Ey]16<y]", -1 - 2);
        check.take("?", -1);
        check.take("[x?", -1 - 2);
    }

    private void countedAnew() {
        check.about("the claims and those in [ ] of each text by itself");
        String eight = "&".repeat(7) + "!".repeat(5) + ATOM.repeat(8);
        LineClaims claims = new LineClaims();
        check.take(claims, eight, 8);
        check.take(claims, eight, 8);
        check.take(claims, "!" + eight, -1 - 48);
        check.take(claims, eight, 8);
        check.take(claims, "&" + eight + ATOM, -1 - 48);
        check.take(claims, "ExEyE", -1 - 4);
        check.take(claims, "Ex" + ATOM, 1);
        check.take(claims, "ExEy" + ATOM, 1);
        check.take(claims, "&AzEy[y<z][x<1]", -1 - 15);
        check.take(claims, "[x<1]", 1);
        check.take(claims, "Ey[y<1", -1 - 6);
        check.take(claims, "[y<1]", -1 - 1);
    }

    private void everyPrefixEnds() {
        check.about("the end at its length");
        String[] sound = {"&Ey![2:2y-x+12][-x=x-14]", ">AxEy/[12<2x-y][3:z]".replace('z', 'y') + "[0=0]",
            "!!/Az[z=12]&Ex[2:x][3<4]", "Ey&[ 1 2 < y ] [ 3 : - 2 y ]"};
        for (String text : sound) {
            for (int length = 0; length < text.length(); length++) {
                LineClaims claims = check.with("[x=4]");
                check.take(claims, text.substring(0, length), -1 - length);
                check.due("next(0) after it", claims.next(0), 4);
            }
            check.due("whether " + text + " is sound", FaultModel.due(text) > 0, true);
            check.take(text, FaultModel.due(text));
        }
    }

    private void nothingBehindTheEnd() {
        check.about("a claim, and nothing behind it");
        String[] sound = {"[x<1]", "![x<1]", "&[x<1][2:x]", "Ey[y<x]", "ExEy[x<y]"};
        for (String text : sound) {
            check.take(text, FaultModel.due(text));
            check.take(text + "   ", FaultModel.due(text));
            for (char c = 33; c <= 126; c++) {
                check.take(text + c, -1 - text.length());
                check.take(text + "  " + c, -1 - text.length() - 2);
            }
        }
    }

    private void claimsBegin() {
        check.about("A CLAIM is one of these");
        for (char c = 33; c <= 126; c++) {
            boolean begins = "&/>!EA[".indexOf(c) >= 0;
            check.take(String.valueOf(c), begins ? -2 : -1);
            check.take("&" + c, begins ? -3 : -2);
            check.take("![" + "0<1]" + c, -1 - 6);
            check.take("&[0<1]" + c, begins ? -1 - 7 : -1 - 6);
            check.take("Ex" + c, begins ? -4 : -3);
        }
    }
}
