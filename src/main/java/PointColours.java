import java.util.Arrays;

/** Gives the points of a graph colours, so that joined ones have unlike ones, by taking out and putting back. */
public final class PointColours {
    private static final int MOST_POINTS = 200;
    private static final int MOST_COLOURS = 30;
    private static final int MOST_COST = 1000000;

    /** Stands where there is no point or no colour. */
    private static final int NONE = -1;

    private static final int WORD_BITS = 64;
    private static final int ROW_WORDS = (MOST_POINTS + WORD_BITS - 1) / WORD_BITS;

    private int points;
    private int colours;
    private boolean given;

    // All rows have full length from the start, so that no later call makes anything.
    /** A bit for each pair of points: a full table of elements would fill the room of a run with many objects. */
    private final long[] edges = new long[MOST_POINTS * ROW_WORDS];
    private final int[] degrees = new int[MOST_POINTS];
    private final int[] costs = new int[MOST_POINTS];
    private final int[] wishes = new int[MOST_POINTS];

    /** The points in the order in which they were taken out. */
    private final int[] order = new int[MOST_POINTS];
    private final boolean[] isOut = new boolean[MOST_POINTS];
    private final int[] neighboursIn = new int[MOST_POINTS];
    private final int[] colourOf = new int[MOST_POINTS];

    public PointColours() {
        startGraph(1, 1);
    }

    public boolean begin(int n, int k) {
        if (n < 1 || n > MOST_POINTS || k < 1 || k > MOST_COLOURS) {
            return false;
        }
        startGraph(n, k);
        return true;
    }

    public boolean join(int a, int b) {
        if (!isPoint(a) || !isPoint(b) || a == b || hasEdge(a, b)) {
            return false;
        }
        addNeighbour(a, b);
        addNeighbour(b, a);
        given = false;
        return true;
    }

    public boolean cost(int a, int c) {
        if (!isPoint(a) || c < 0 || c > MOST_COST) {
            return false;
        }
        costs[a] = c;
        given = false;
        return true;
    }

    public boolean wish(int a, int b) {
        if (!isPoint(a) || !isPoint(b)) {
            return false;
        }
        wishes[a] = a == b ? NONE : b;
        given = false;
        return true;
    }

    public int give() {
        takeAllOut();
        putAllBack();
        given = true;
        return countColourless();
    }

    public int colour(int a) {
        return given && isPoint(a) ? colourOf[a] : NONE;
    }

    public int taken(int i) {
        // There are as many places in the order as points.
        return given && isPoint(i) ? order[i] : NONE;
    }

    public boolean joined(int a, int b) {
        return isPoint(a) && isPoint(b) && hasEdge(a, b);
    }

    public int degree(int a) {
        return isPoint(a) ? degrees[a] : -1;
    }

    public int strays() {
        if (!given) {
            return 0;
        }
        int count = 0;
        for (int a = 0; a < points; a++) {
            for (int b = a + 1; b < points; b++) {
                if (colourOf[a] != NONE && colourOf[a] == colourOf[b] && hasEdge(a, b)) {
                    count++;
                }
            }
        }
        return count;
    }

    private void startGraph(int n, int k) {
        points = n;
        colours = k;
        given = false;
        Arrays.fill(edges, 0L);
        Arrays.fill(degrees, 0);
        Arrays.fill(costs, 0);
        Arrays.fill(wishes, NONE);
    }

    private boolean isPoint(int a) {
        return a >= 0 && a < points;
    }

    private boolean hasEdge(int a, int b) {
        return (edges[wordOf(a, b)] & bitOf(b)) != 0L;
    }

    private void addNeighbour(int a, int b) {
        edges[wordOf(a, b)] |= bitOf(b);
        degrees[a]++;
    }

    private static int wordOf(int a, int b) {
        return a * ROW_WORDS + b / WORD_BITS;
    }

    private static long bitOf(int b) {
        return 1L << (b % WORD_BITS);
    }

    private void takeAllOut() {
        for (int p = 0; p < points; p++) {
            isOut[p] = false;
            neighboursIn[p] = degrees[p];
        }
        for (int i = 0; i < points; i++) {
            order[i] = nextOut();
            takeOut(order[i]);
        }
    }

    private int nextOut() {
        int cheapest = NONE;
        for (int p = 0; p < points; p++) {
            if (isOut[p]) {
                continue;
            }
            if (neighboursIn[p] < colours) {
                return p;
            }
            if (cheapest == NONE || isCheaper(p, cheapest)) {
                cheapest = p;
            }
        }
        return cheapest;
    }

    /** Multiplies crosswise, since a quotient would be rounded. */
    private boolean isCheaper(int p, int q) {
        return (long) costs[p] * neighboursIn[q] < (long) costs[q] * neighboursIn[p];
    }

    private void takeOut(int p) {
        if (!isPoint(p)) {
            return;
        }
        isOut[p] = true;
        for (int q = 0; q < points; q++) {
            if (hasEdge(p, q)) {
                neighboursIn[q]--;
            }
        }
    }

    private void putAllBack() {
        // Who has not come back yet must not bar or lend a colour of an earlier giving.
        Arrays.fill(colourOf, NONE);
        for (int i = points - 1; i >= 0; i--) {
            int p = order[i];
            if (isPoint(p)) {
                colourOf[p] = chooseColour(p);
            }
        }
    }

    private int chooseColour(int p) {
        int barred = coloursAround(p);
        int wished = wishedColour(p);
        if (wished != NONE && isFree(wished, barred)) {
            return wished;
        }
        for (int c = 0; c < colours; c++) {
            if (isFree(c, barred)) {
                return c;
            }
        }
        return NONE;
    }

    /** The colours of the neighbours, a bit for each: the most colours there can be fit into an int. */
    private int coloursAround(int p) {
        int barred = 0;
        for (int q = 0; q < points; q++) {
            if (colourOf[q] != NONE && hasEdge(p, q)) {
                barred |= 1 << colourOf[q];
            }
        }
        return barred;
    }

    private int wishedColour(int p) {
        int w = wishes[p];
        return isPoint(w) ? colourOf[w] : NONE;
    }

    private static boolean isFree(int c, int barred) {
        return (barred & (1 << c)) == 0;
    }

    private int countColourless() {
        int count = 0;
        for (int p = 0; p < points; p++) {
            if (colourOf[p] == NONE) {
                count++;
            }
        }
        return count;
    }
}
