/** A row of numbers that look drawn by lot but are the same in each run. */
final class Draw {
    private long state;

    Draw(long seed) {
        state = seed;
    }

    /** 0 .. bound - 1. */
    int below(int bound) {
        state = state * 6364136223846793005L + 1442695040888963407L;
        return (int) ((state >>> 33) % bound);
    }

    int between(int least, int greatest) {
        return least + below(greatest - least + 1);
    }

    boolean oneIn(int n) {
        return below(n) == 0;
    }

    char of(String characters) {
        return characters.charAt(below(characters.length()));
    }
}
