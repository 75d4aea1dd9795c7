/** One object with claim after claim, sound and faulty ones, up to its 512th call: nothing of an earlier claim shows. */
public final class ReuseTest {
    private static final int OBJECTS = 150;
    private static final int CALLS = 512;
    private static final int MOST_IN_A_ROUND = 80;

    private final Due check;
    private final Draw draw;
    private final Drawing drawing;
    private LineClaims claims;
    private Model model;
    private int calls;

    private ReuseTest(Due check, Draw draw) {
        this.check = check;
        this.draw = draw;
        this.drawing = new Drawing(draw);
    }

    public static void main(String[] args) {
        Due check = new Due();
        ReuseTest test = new ReuseTest(check, new Draw(4242));
        for (int i = 0; i < OBJECTS; i++) {
            test.useOne();
        }
        check.end();
    }

    private void useOne() {
        claims = new LineClaims();
        calls = 0;
        while (calls + MOST_IN_A_ROUND <= CALLS) {
            takeSound();
            ask();
            takeFaulty();
            ask();
        }
        while (calls < CALLS) {
            askOne(draw.between(-1000, 1000));
        }
    }

    private void takeSound() {
        model = draw.oneIn(2) ? drawing.open() : drawing.closed();
        take(model.text(), model.brackets());
    }

    private void takeFaulty() {
        String text = (draw.oneIn(2) ? drawing.open() : drawing.closed()).text();
        String spoilt = text.substring(0, draw.below(text.length()));
        take(spoilt, FaultModel.due(spoilt));
    }

    private void take(String text, int want) {
        check.take(claims, text, want);
        calls += (text.length() + 3) / 4 + 1;
    }

    private void ask() {
        check.due("free() with " + model.text(), claims.free(), model.mentionsFree(0));
        calls++;
        for (int i = 0; i < 4; i++) {
            askOne(draw.between(-100, 100));
        }
    }

    private void askOne(int v) {
        check.due("holds(" + v + ") with " + model.text(), claims.holds(v), model.isSo(new int[] {v, 0, 0}));
        calls++;
    }
}
