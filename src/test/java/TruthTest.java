/** Promises 3 to 12 for drawn claims, against the slow model that goes from number to number. */
public final class TruthTest {
    private static final int DRAWN = 300;
    private static final int FAR = 1100;
    private static final int EDGE = 1000;

    private final Due check;
    private final boolean[] truth = new boolean[2 * FAR + 1];

    private TruthTest(Due check) {
        this.check = check;
    }

    public static void main(String[] args) {
        Due check = new Due();
        TruthTest test = new TruthTest(check);
        Drawing drawing = new Drawing(new Draw(20261115));
        for (int i = 0; i < DRAWN; i++) {
            test.look(drawing.open());
            test.look(drawing.closed());
        }
        check.end();
    }

    private void look(Model model) {
        fill(model);
        String text = model.text();
        lookAtHolds(model, text);
        lookAtRest(model, text);
        lookAtSearches(model, text);
    }

    private void fill(Model model) {
        boolean free = model.mentionsFree(0);
        boolean constant = !free && model.isSo(new int[3]);
        for (int v = -FAR; v <= FAR; v++) {
            truth[v + FAR] = free ? model.isSo(new int[] {v, 0, 0}) : constant;
        }
    }

    private boolean has(int v) {
        return truth[v + FAR];
    }

    private LineClaims taken(Model model, String text) {
        LineClaims claims = new LineClaims();
        check.take(claims, text, model.brackets());
        return claims;
    }

    private void lookAtHolds(Model model, String text) {
        LineClaims claims = taken(model, text);
        for (int v = -110; v <= 110; v++) {
            check.due(text + ": holds(" + v + ")", claims.holds(v), has(v));
        }
        for (int i = 0; i < 14; i++) {
            check.due(text + ": holds at the top", claims.holds(EDGE - i), has(EDGE - i));
            check.due(text + ": holds at the bottom", claims.holds(i - EDGE), has(i - EDGE));
        }
    }

    private void lookAtRest(Model model, String text) {
        LineClaims claims = taken(model, text);
        check.due(text + ": free()", claims.free(), model.mentionsFree(0));
        check.due(text + ": some()", claims.some(), least(-FAR) <= FAR);
        check.due(text + ": all()", claims.all(), counted(-FAR, FAR) == 2 * FAR + 1);
        check.due(text + ": again(true)", claims.again(true), counted(EDGE, FAR) > 0);
        check.due(text + ": again(false)", claims.again(false), counted(-FAR, -EDGE) > 0);
        check.due(text + ": period()", claims.period(), leastPeriod());
        for (int a = -EDGE; a <= EDGE; a += 37) {
            int b = Math.min(EDGE, a + 99 - Math.floorMod(a, 50));
            check.due(text + ": count(" + a + ", " + b + ")", claims.count(a, b), counted(a, b));
        }
        check.due(text + ": free()", claims.free(), model.mentionsFree(0));
    }

    private void lookAtSearches(Model model, String text) {
        LineClaims claims = taken(model, text);
        for (int v = -EDGE; v <= EDGE; v += v >= -100 && v < 100 ? 4 : 25) {
            int least = least(v);
            int greatest = greatest(v);
            check.due(text + ": next(" + v + ")", claims.next(v), least > FAR ? 1000000 : least);
            check.due(text + ": last(" + v + ")", claims.last(v), greatest < -FAR ? -1000000 : greatest);
        }
    }

    private int least(int from) {
        int v = from;
        while (v <= FAR && !has(v)) {
            v++;
        }
        return v;
    }

    private int greatest(int to) {
        int v = to;
        while (v >= -FAR && !has(v)) {
            v--;
        }
        return v;
    }

    private int counted(int a, int b) {
        int found = 0;
        for (int v = a; v <= b; v++) {
            found += has(v) ? 1 : 0;
        }
        return found;
    }

    private int leastPeriod() {
        for (int p = 1; p < 100; p++) {
            boolean repeats = true;
            for (int v = EDGE - 100; v + p <= FAR; v++) {
                repeats &= has(v) == has(v + p);
            }
            if (repeats) {
                return p;
            }
        }
        return -1;
    }
}
