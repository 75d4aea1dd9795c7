/** Promise 3 for drawn texts, sound and spoilt ones, against a machine that goes from character to character. */
public final class FaultPlacesTest {
    private static final int DRAWN = 40000;
    private static final String CHARACTERS = "xyzxyz0123456789+-+-<=<=:[][]&/>!EAEAw ~ ";

    public static void main(String[] args) {
        Due check = new Due();
        Draw draw = new Draw(77);
        Drawing drawing = new Drawing(draw);
        int sound = 0;
        for (int i = 0; i < DRAWN; i++) {
            String text = spoilt(draw.oneIn(2) ? drawing.open().text() : drawing.closed().text(), draw);
            int due = FaultModel.due(text);
            sound += due > 0 ? 1 : 0;
            check.take(new LineClaims(), text, due);
        }
        for (int i = 0; i < DRAWN; i++) {
            String text = wild(draw);
            check.take(new LineClaims(), text, FaultModel.due(text));
        }
        check.due("whether enough drawn texts are sound", sound > DRAWN / 10, true);
        check.end();
    }

    private static String spoilt(String text, Draw draw) {
        StringBuilder spoilt = new StringBuilder(text);
        int changes = draw.below(4);
        for (int i = 0; i < changes; i++) {
            int place = draw.below(spoilt.length() + 1);
            switch (draw.below(5)) {
                case 0: spoilt.insert(place, draw.of(CHARACTERS)); break;
                case 1: spoilt.insert(place, ' '); break;
                case 2: spoilt.delete(place, place + 1); break;
                case 3: spoilt.replace(place, place + 1, String.valueOf(draw.of(CHARACTERS))); break;
                default: if (draw.oneIn(3)) { spoilt.setLength(place); }
            }
        }
        return spoilt.substring(0, Math.min(120, spoilt.length()));
    }

    /** Texts of pieces that are often sound, for the limits of claims, claims in [ ] and quantifiers. */
    private static String wild(Draw draw) {
        String[] pieces = {"&", "&", "/", ">", "!", "Ex", "Ay", "Ez", "[x<1]", "[2:x]", "[0=0]", "[y<2x]", "[z=1]", "[-x<-12]"};
        StringBuilder wild = new StringBuilder();
        int size = draw.between(1, 30);
        for (int i = 0; i < size && wild.length() < 112; i++) {
            boolean early = i < size / 2;
            wild.append(pieces[early ? draw.below(8) : draw.below(pieces.length)]);
        }
        return wild.toString();
    }
}
