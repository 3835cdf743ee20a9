/** Promises 6, 7, 8 and 11: give, colour, taken and strays. Their sentences part by part, each from both sides. */
final class GiveTest {
    private static final Check check = new Check();

    public static void main(String[] args) {
        noColourBeforeGiving();
        noColourForWhoGotNone();
        noColourForWhatIsNoPoint();
        nothingTakenBeforeGiving();
        nothingTakenBeyondTheOrder();
        noStraysBeforeGiving();
        noStraysInLargeGraphs();
        allButOneGetNone();
        mostThatGetNone();
        askingChangesNothing();
        completeGraphs();
        allThirtyColours();
        leastNumberIsSoughtAnew();
        takenOutInVainButColoured();
        fewerThanTheColoursIsStrict();
        givingAgainAnswersTheSame();
        colourlessPairsAreNoStrays();
        check.end();
    }

    /** Promise 7, "-1 if .. none were given". */
    private static void noColourBeforeGiving() {
        PointColours x = Check.graph(2, 2, Check.edge(0, 1));
        check.colours("before give", x, -1, -1);
        x.give();
        check.colours("after give", x, 1, 0);
        x.begin(200, 30);
        check.due("colour(0) before give", x.colour(0), -1);
        check.due("colour(199) before give", x.colour(199), -1);
    }

    /** Promise 7, "-1 if it has none". */
    private static void noColourForWhoGotNone() {
        PointColours x = Check.graph(200, 1, Check.edge(0, 199));
        x.cost(0, 1);
        check.due("give() of a pair and one colour", x.give(), 1);
        check.due("colour(0)", x.colour(0), 0);
        check.due("colour(198)", x.colour(198), 0);
        check.due("colour(199)", x.colour(199), -1);
    }

    /** Promise 7, "The colour of a point": what is no point has none. */
    private static void noColourForWhatIsNoPoint() {
        for (int n : new int[] {1, 3, 64, 200}) {
            PointColours x = Check.graph(n, 2);
            x.give();
            check.due("colour(0) of " + n, x.colour(0), 0);
            check.due("colour(" + (n - 1) + ")", x.colour(n - 1), 0);
            for (int none : Check.noPoints(n)) {
                check.due("colour(" + none + ") of " + n, x.colour(none), -1);
            }
        }
    }

    /** Promise 8, "-1 if .. no colours were given". */
    private static void nothingTakenBeforeGiving() {
        PointColours x = Check.graph(2, 2, Check.edge(0, 1));
        check.order("before give", x, -1, -1);
        x.give();
        check.order("after give", x, 0, 1);
        x.begin(200, 30);
        check.due("taken(0) before give", x.taken(0), -1);
        check.due("taken(199) before give", x.taken(199), -1);
    }

    /** Promise 8, "(0 the first); -1 if there is none": a larger graph before it leaves nothing behind. */
    private static void nothingTakenBeyondTheOrder() {
        PointColours x = Check.graph(200, 2);
        x.give();
        check.due("taken(0) of 200", x.taken(0), 0);
        check.due("taken(199) of 200", x.taken(199), 199);
        for (int none : Check.noPoints(200)) {
            check.due("taken(" + none + ") of 200", x.taken(none), -1);
        }
        for (int n : new int[] {64, 3, 1}) {
            x.begin(n, 2);
            x.give();
            check.due("taken(0) of " + n, x.taken(0), 0);
            check.due("taken(" + (n - 1) + ")", x.taken(n - 1), n - 1);
            for (int none : Check.noPoints(n)) {
                check.due("taken(" + none + ") of " + n, x.taken(none), -1);
            }
        }
    }

    /** Promise 11, "0 if no colours were given": at first, and after those of points now joined were dropped. */
    private static void noStraysBeforeGiving() {
        check.due("strays() of a new one", new PointColours().strays(), 0);
        PointColours x = Check.graph(3, 2);
        check.due("strays() before give", x.strays(), 0);
        x.give();
        check.colours("all alike", x, 0, 0, 0);
        x.join(0, 1);
        x.join(1, 2);
        check.due("strays() after joins of like ones", x.strays(), 0);
    }

    /** Promise 11, "in a right system never any": held against the colours and edges themselves. */
    private static void noStraysInLargeGraphs() {
        for (int k : new int[] {1, 2, 5, 30}) {
            PointColours x = Check.graph(200, k);
            int[][] edges = new int[250][];
            for (int i = 0; i < edges.length; i++) {
                edges[i] = Check.edge(i * 11 % 40, (i * i + 3 * i + 199) % 200);
                x.join(edges[i][0], edges[i][1]);
            }
            x.give();
            check.due("strays() with " + k + " colours", x.strays(), 0);
            int[] colours = new int[200];
            for (int a = 0; a < 200; a++) {
                colours[a] = x.colour(a);
                check.due("colour(" + a + ") is below " + k, colours[a] >= -1 && colours[a] < k, true);
            }
            for (int[] edge : edges) {
                boolean alike = edge[0] != edge[1] && colours[edge[0]] >= 0 && colours[edge[0]] == colours[edge[1]];
                check.due("alike are " + edge[0] + " and " + edge[1], alike, false);
            }
        }
    }

    /** Promise 6, "how many points got none": all but as many as there are colours. */
    private static void allButOneGetNone() {
        PointColours x = Check.complete(31, 1);
        check.due("give() of 31 points and one colour", x.give(), 30);
        check.due("strays()", x.strays(), 0);
    }

    /** Promise 6, "how many points got none": forty crowds of five in the largest graph, and one colour. */
    private static void mostThatGetNone() {
        PointColours x = Check.graph(200, 1);
        for (int first = 0; first < 200; first += 5) {
            for (int pair = 0; pair < 25; pair++) {
                if (pair / 5 < pair % 5) {
                    x.join(first + pair / 5, first + pair % 5);
                }
            }
        }
        check.due("give() of forty crowds", x.give(), 160);
        check.due("colour(0)", x.colour(0), -1);
        check.due("colour(4)", x.colour(4), 0);
        check.due("colour(198)", x.colour(198), -1);
        check.due("colour(199)", x.colour(199), 0);
    }

    private static void askingChangesNothing() {
        PointColours x = Check.graph(4, 2, Check.edge(0, 1), Check.edge(1, 2), Check.edge(0, 2));
        x.give();
        int[] before = Check.looks(x, 4);
        for (int none : Check.noPoints(4)) {
            x.colour(none);
            x.taken(none);
            x.degree(none);
            x.joined(none, 0);
            x.joined(0, none);
        }
        check.due("looks after looks", Check.looks(x, 4), before);
        check.due("give() after looks", x.give(), 1);
        check.due("looks after give()", Check.looks(x, 4), before);
    }

    private static void completeGraphs() {
        for (int n = 1; n <= 8; n++) {
            for (int k = 1; k <= 10; k++) {
                PointColours x = Check.complete(n, k);
                int without = Math.max(0, n - k);
                check.due("give() of " + n + " points and " + k + " colours", x.give(), without);
                for (int a = 0; a < n; a++) {
                    check.due("colour(" + a + ")", x.colour(a), a < without ? -1 : n - 1 - a);
                    check.due("taken(" + a + ")", x.taken(a), a);
                }
                check.due("strays()", x.strays(), 0);
            }
        }
    }

    private static void allThirtyColours() {
        PointColours x = Check.complete(31, 30);
        check.due("give() of 31 points and 30 colours", x.give(), 1);
        check.due("colour(0)", x.colour(0), -1);
        check.due("colour(1)", x.colour(1), 29);
        check.due("colour(30)", x.colour(30), 0);
        check.due("strays()", x.strays(), 0);
    }

    private static void leastNumberIsSoughtAnew() {
        PointColours x = Check.graph(4, 2, Check.edge(0, 1), Check.edge(0, 2), Check.edge(0, 3));
        check.due("give() of a star", x.give(), 0);
        check.order("of a star", x, 1, 2, 0, 3);
        check.colours("of a star", x, 1, 0, 0, 0);
    }

    /** A ring of four and two colours: none has fewer than two neighbours, yet all get a colour. */
    private static void takenOutInVainButColoured() {
        PointColours x = Check.graph(4, 2, Check.edge(0, 1), Check.edge(1, 2), Check.edge(2, 3), Check.edge(3, 0));
        check.due("give() of a ring", x.give(), 0);
        check.order("of a ring", x, 0, 1, 2, 3);
        check.colours("of a ring", x, 1, 0, 1, 0);
    }

    /** With two neighbours and two colours the point 0 is not taken out before 3 is. */
    private static void fewerThanTheColoursIsStrict() {
        PointColours x = Check.graph(4, 2, Check.edge(0, 1), Check.edge(0, 2), Check.edge(1, 2));
        x.cost(0, 1);
        check.due("give() of a triangle and a point", x.give(), 1);
        check.order("of a triangle and a point", x, 3, 1, 0, 2);
        check.colours("of a triangle and a point", x, 1, -1, 0, 0);
    }

    private static void givingAgainAnswersTheSame() {
        PointColours x = Check.graph(5, 2, Check.edge(0, 1), Check.edge(1, 2), Check.edge(2, 3), Check.edge(3, 4),
                Check.edge(4, 0));
        for (int time = 1; time <= 3; time++) {
            check.due("give() of a ring of five", x.give(), 1);
            check.colours("of a ring of five", x, -1, 1, 0, 1, 0);
            check.order("of a ring of five", x, 0, 1, 2, 3, 4);
        }
    }

    /** Promise 11: two that have none do not have the same colour. */
    private static void colourlessPairsAreNoStrays() {
        PointColours x = Check.complete(6, 1);
        check.due("give() of six joined points", x.give(), 5);
        check.due("strays() of six joined points", x.strays(), 0);
    }
}
