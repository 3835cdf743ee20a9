/** What the document says of a GRAPH under "Terms": each bound from both sides. */
final class GraphTermsTest {
    private static final int[] FAR = {-200, -(1 << 30), Integer.MIN_VALUE, Integer.MIN_VALUE + 1, 256, 1 << 16,
        1 << 30, Integer.MAX_VALUE - 1, Integer.MAX_VALUE};
    private static final Check check = new Check();

    public static void main(String[] args) {
        numberOfPoints();
        pointsOfTheSmallestGraph();
        pointsOfTheLargestGraph();
        noPointIsJoinedToItself();
        eachPairIsJoinedOnce();
        costs();
        costIsZeroAtFirst();
        onlySomeHaveAWish();
        numberOfColours();
        coloursAreNumberedFromZero();
        check.end();
    }

    /** "A GRAPH has n POINTS 0 .. n - 1 (1 .. 200)": the number n. */
    private static void numberOfPoints() {
        PointColours x = new PointColours();
        for (int n = -5; n <= 205; n++) {
            check.due("begin(" + n + ", 1)", x.begin(n, 1), n >= 1 && n <= 200);
        }
        for (int n : FAR) {
            check.due("begin(" + n + ", 1)", x.begin(n, 1), false);
        }
    }

    /** "A GRAPH has n POINTS 0 .. n - 1 (1 .. 200)": the points of the smallest one. */
    private static void pointsOfTheSmallestGraph() {
        PointColours x = Check.graph(1, 30);
        pointsEndWith(x, 0);
        x.give();
        check.colours("of one point", x, 0, -1);
        check.order("of one point", x, 0, -1);
    }

    /** "A GRAPH has n POINTS 0 .. n - 1 (1 .. 200)": the points of the largest one. */
    private static void pointsOfTheLargestGraph() {
        PointColours x = Check.graph(200, 30);
        pointsEndWith(x, 199);
        x.join(0, 199);
        check.due("give() of 200 points", x.give(), 0);
        check.due("colour(0)", x.colour(0), 1);
        check.due("colour(199)", x.colour(199), 0);
        check.due("taken(0)", x.taken(0), 0);
        check.due("taken(199)", x.taken(199), 199);
    }

    private static void pointsEndWith(PointColours x, int last) {
        check.due("degree(" + last + ")", x.degree(last), 0);
        check.due("cost(" + last + ", 1)", x.cost(last, 1), true);
        check.due("wish(0, " + last + ")", x.wish(0, last), true);
        check.due("wish(" + last + ", 0)", x.wish(last, 0), true);
        for (int none : Check.noPoints(last + 1)) {
            check.due("degree(" + none + ")", x.degree(none), -1);
            check.due("cost(" + none + ", 1)", x.cost(none, 1), false);
            check.due("wish(0, " + none + ")", x.wish(0, none), false);
            check.due("wish(" + none + ", 0)", x.wish(none, 0), false);
            check.due("join(0, " + none + ")", x.join(0, none), false);
            check.due("join(" + none + ", 0)", x.join(none, 0), false);
            check.due("joined(0, " + none + ")", x.joined(0, none), false);
            check.due("joined(" + none + ", 0)", x.joined(none, 0), false);
        }
    }

    /** "EDGES between unlike points (each pair joined or not)": unlike ones. */
    private static void noPointIsJoinedToItself() {
        PointColours x = Check.graph(200, 1);
        for (int a = 0; a < 200; a++) {
            check.due("join(" + a + ", " + a + ")", x.join(a, a), false);
            check.due("degree(" + a + ")", x.degree(a), 0);
        }
        check.due("joined(0, 0)", x.joined(0, 0), false);
        check.due("joined(199, 199)", x.joined(199, 199), false);
    }

    /** "EDGES between unlike points (each pair joined or not)": a pair, whichever of the two is named first. */
    private static void eachPairIsJoinedOnce() {
        PointColours x = Check.graph(200, 1, Check.edge(199, 0));
        check.due("join(199, 0) again", x.join(199, 0), false);
        check.due("join(0, 199) again", x.join(0, 199), false);
        check.due("degree(0)", x.degree(0), 1);
        check.due("degree(199)", x.degree(199), 1);
        check.due("joined(0, 199)", x.joined(0, 199), true);
        check.due("joined(199, 0)", x.joined(199, 0), true);
    }

    /** "a COST of each point (0 .. 1000000, 0 at first)": the bounds. */
    private static void costs() {
        PointColours x = Check.graph(200, 1);
        for (int a : new int[] {0, 199}) {
            for (int c : new int[] {0, 1, 999999, 1000000}) {
                check.due("cost(" + a + ", " + c + ")", x.cost(a, c), true);
            }
            for (int c : new int[] {-2, -1, 1000001, 1000002}) {
                check.due("cost(" + a + ", " + c + ")", x.cost(a, c), false);
            }
            for (int c : new int[] {-1000000, Integer.MIN_VALUE, Integer.MIN_VALUE + 1, Integer.MAX_VALUE}) {
                check.due("cost(" + a + ", " + c + ")", x.cost(a, c), false);
            }
        }
    }

    /** "a COST of each point (0 .. 1000000, 0 at first)": less than 1, and not less than 0. */
    private static void costIsZeroAtFirst() {
        PointColours x = Check.complete(2, 1);
        x.cost(0, 1);
        x.give();
        check.order("with the cost 1 against the first one", x, 1, 0);
        x.cost(0, 0);
        x.give();
        check.order("with the cost 0 against the first one", x, 0, 1);
    }

    /** "for some a WISH, another point": who was not given one has none, whoever else has one. */
    private static void onlySomeHaveAWish() {
        PointColours x = Check.graph(4, 2, Check.edge(2, 3));
        x.wish(1, 2);
        x.give();
        check.colours("with one wish", x, 0, 1, 1, 0);
    }

    /** "k COLOURS, 0 .. k - 1 (1 .. 30)": the number k. */
    private static void numberOfColours() {
        PointColours x = new PointColours();
        for (int n : new int[] {1, 200}) {
            for (int k = -5; k <= 70; k++) {
                check.due("begin(" + n + ", " + k + ")", x.begin(n, k), k >= 1 && k <= 30);
            }
            for (int k : FAR) {
                check.due("begin(" + n + ", " + k + ")", x.begin(n, k), false);
            }
        }
    }

    /** "k COLOURS, 0 .. k - 1 (1 .. 30)": all of them are given, and no other. */
    private static void coloursAreNumberedFromZero() {
        for (int k = 1; k <= 30; k++) {
            PointColours x = Check.complete(k + 1, k);
            check.due("give() of one point too many for " + k + " colours", x.give(), 1);
            for (int a = 0; a <= k; a++) {
                check.due("colour(" + a + ") of " + k, x.colour(a), a == 0 ? -1 : k - a);
            }
        }
    }
}
