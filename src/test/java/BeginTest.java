/** Promise 2: begin. Its sentence part by part, each from both sides. */
final class BeginTest {
    private static final int[] NO_COUNTS_OF_POINTS = {0, -1, -200, 201, 202, 1 << 16, Integer.MIN_VALUE,
        Integer.MAX_VALUE};
    private static final int[] NO_COUNTS_OF_COLOURS = {0, -1, -30, 31, 32, 33, 64, 200, Integer.MIN_VALUE,
        Integer.MAX_VALUE};
    private static final Check check = new Check();

    public static void main(String[] args) {
        makesSoManyPoints();
        makesSoManyColours();
        noEdgesAreLeft();
        noEdgesOfALargerGraphAreLeft();
        noCostsAreLeft();
        noWishesAreLeft();
        noColoursAreGiven();
        refusesWhatIsNoNumberOfPoints();
        refusesWhatIsNoNumberOfColours();
        refusesBoth();
        refusedBeginChangesNothing();
        check.end();
    }

    /** "A graph of n points": the last one is there and the one behind it is not. */
    private static void makesSoManyPoints() {
        PointColours x = new PointColours();
        for (int n : new int[] {200, 1, 2, 63, 64, 65, 128, 199, 200}) {
            check.due("begin(" + n + ", 1)", x.begin(n, 1), true);
            check.due("degree of the last of " + n, x.degree(n - 1), 0);
            check.due("degree after the last of " + n, x.degree(n), -1);
            check.due("give() with " + n, x.give(), 0);
            check.due("taken last of " + n, x.taken(n - 1), n - 1);
            check.due("taken after the last of " + n, x.taken(n), -1);
            check.due("colour of the last of " + n, x.colour(n - 1), 0);
            check.due("colour after the last of " + n, x.colour(n), -1);
        }
    }

    /** "and k colours": of four joined points so many get one. */
    private static void makesSoManyColours() {
        PointColours x = new PointColours();
        for (int k : new int[] {30, 1, 2, 3, 4, 5, 29, 30, 1}) {
            check.due("begin(4, " + k + ")", x.begin(4, k), true);
            for (int pair = 0; pair < 16; pair++) {
                x.join(pair / 4, pair % 4);
            }
            check.due("give() with " + k + " colours", x.give(), Math.max(0, 4 - k));
        }
    }

    /** "without edges". */
    private static void noEdgesAreLeft() {
        PointColours x = Check.complete(4, 1);
        x.begin(4, 1);
        for (int a = 0; a < 4; a++) {
            check.due("degree(" + a + ") after begin", x.degree(a), 0);
            for (int b = 0; b < 4; b++) {
                check.due("joined(" + a + ", " + b + ") after begin", x.joined(a, b), false);
            }
        }
        check.due("give() after begin", x.give(), 0);
        check.due("join(0, 1) after begin", x.join(0, 1), true);
    }

    /** "without edges", after a graph of one point in between too. */
    private static void noEdgesOfALargerGraphAreLeft() {
        PointColours x = Check.graph(200, 30, Check.edge(0, 199), Check.edge(198, 199), Check.edge(5, 100));
        x.begin(1, 1);
        check.due("joined(198, 199) in a small graph", x.joined(198, 199), false);
        x.begin(200, 30);
        check.due("joined(198, 199) in a new graph", x.joined(198, 199), false);
        check.due("joined(5, 100) in a new graph", x.joined(5, 100), false);
        check.due("joined(0, 199) in a new graph", x.joined(0, 199), false);
        check.due("degree(0) in a new graph", x.degree(0), 0);
        check.due("degree(199) in a new graph", x.degree(199), 0);
    }

    /** "without .. costs": the least number goes first again, at both ends of the largest graph. */
    private static void noCostsAreLeft() {
        PointColours x = Check.graph(200, 1, Check.edge(0, 199));
        x.cost(0, 7);
        x.give();
        check.due("taken(198) with a cost", x.taken(198), 199);
        x.begin(200, 1);
        x.join(0, 199);
        x.give();
        check.due("taken(198) when the old cost is gone", x.taken(198), 0);
        x.cost(199, 7);
        x.begin(1, 1);
        x.begin(200, 1);
        x.join(0, 199);
        x.cost(0, 1);
        x.give();
        check.due("taken(198) when the old cost of 199 is gone", x.taken(198), 199);
    }

    /** "without .. wishes". */
    private static void noWishesAreLeft() {
        PointColours x = Check.graph(200, 3, Check.edge(198, 199));
        x.wish(0, 198);
        x.wish(197, 198);
        x.give();
        check.due("colour(0) with a wish", x.colour(0), 1);
        check.due("colour(197) with a wish", x.colour(197), 1);
        x.begin(1, 3);
        x.begin(200, 3);
        x.join(198, 199);
        x.give();
        check.due("colour(198)", x.colour(198), 1);
        check.due("colour(0) when the old wish is gone", x.colour(0), 0);
        check.due("colour(197) when the old wish is gone", x.colour(197), 0);
    }

    /** "no colours given: true". */
    private static void noColoursAreGiven() {
        PointColours x = Check.graph(3, 1, Check.edge(0, 1), Check.edge(1, 2));
        x.give();
        check.due("begin(3, 1) again", x.begin(3, 1), true);
        check.colours("after begin", x, -1, -1, -1);
        check.order("after begin", x, -1, -1, -1);
        check.due("strays() after begin", x.strays(), 0);
    }

    /** "false if n .. is none". */
    private static void refusesWhatIsNoNumberOfPoints() {
        PointColours x = new PointColours();
        for (int n : NO_COUNTS_OF_POINTS) {
            check.due("begin(" + n + ", 1)", x.begin(n, 1), false);
            check.due("begin(" + n + ", 30)", x.begin(n, 30), false);
        }
    }

    /** "false if .. k is none". */
    private static void refusesWhatIsNoNumberOfColours() {
        PointColours x = new PointColours();
        for (int k : NO_COUNTS_OF_COLOURS) {
            check.due("begin(1, " + k + ")", x.begin(1, k), false);
            check.due("begin(200, " + k + ")", x.begin(200, k), false);
        }
    }

    /** "false if n or k is none": both. */
    private static void refusesBoth() {
        PointColours x = new PointColours();
        for (int n : NO_COUNTS_OF_POINTS) {
            for (int k : NO_COUNTS_OF_COLOURS) {
                check.due("begin(" + n + ", " + k + ")", x.begin(n, k), false);
            }
        }
    }

    private static void refusedBeginChangesNothing() {
        PointColours x = Check.graph(4, 2, Check.edge(0, 1), Check.edge(0, 2), Check.edge(1, 2));
        x.cost(0, 9);
        x.cost(2, 9);
        x.wish(3, 0);
        check.due("give()", x.give(), 1);
        int[] before = Check.looks(x, 4);
        for (int n : NO_COUNTS_OF_POINTS) {
            x.begin(n, 1);
        }
        for (int k : NO_COUNTS_OF_COLOURS) {
            x.begin(5, k);
        }
        check.due("looks after refused begins", Check.looks(x, 4), before);
        check.due("give() after refused begins", x.give(), 1);
        check.order("given anew after refused begins", x, 3, 1, 0, 2, -1);
        check.colours("given anew after refused begins", x, 1, -1, 0, 1, -1);
    }
}
