/** Promises 6, 7, 8 and 11: give, colour, taken and strays. */
final class GiveTest {
    private static final Check check = new Check();

    public static void main(String[] args) {
        nothingBeforeGiving();
        completeGraphs();
        allThirtyColours();
        leastNumberIsSoughtAnew();
        takenOutInVainButColoured();
        fewerThanTheColoursIsStrict();
        givingAgainAnswersTheSame();
        wrongPlaces();
        colourlessPairsAreNoStrays();
        check.end();
    }

    private static void nothingBeforeGiving() {
        PointColours x = Check.graph(2, 2, Check.edge(0, 1));
        check.colours("before give", x, -1, -1);
        check.order("before give", x, -1, -1);
        check.due("strays() before give", x.strays(), 0);
    }

    private static void completeGraphs() {
        for (int n = 1; n <= 8; n++) {
            for (int k = 1; k <= 10; k++) {
                PointColours x = Check.complete(n, k);
                int without = Math.max(0, n - k);
                check.due("give() of " + n + " points and " + k + " colours", x.give(), without);
                for (int a = 0; a < n; a++) {
                    check.due("colour(" + a + ")", x.colour(a), a < without ? -1 : n - 1 - a);
                    check.due("taken(" + a + ")", x.taken(a), a);
                }
                check.due("strays()", x.strays(), 0);
            }
        }
    }

    private static void allThirtyColours() {
        PointColours x = Check.complete(31, 30);
        check.due("give() of 31 points and 30 colours", x.give(), 1);
        check.due("colour(0)", x.colour(0), -1);
        check.due("colour(1)", x.colour(1), 29);
        check.due("colour(30)", x.colour(30), 0);
        check.due("strays()", x.strays(), 0);
    }

    private static void leastNumberIsSoughtAnew() {
        PointColours x = Check.graph(4, 2, Check.edge(0, 1), Check.edge(0, 2), Check.edge(0, 3));
        check.due("give() of a star", x.give(), 0);
        check.order("of a star", x, 1, 2, 0, 3);
        check.colours("of a star", x, 1, 0, 0, 0);
    }

    /** A ring of four and two colours: none has fewer than two neighbours, yet all get a colour. */
    private static void takenOutInVainButColoured() {
        PointColours x = Check.graph(4, 2, Check.edge(0, 1), Check.edge(1, 2), Check.edge(2, 3), Check.edge(3, 0));
        check.due("give() of a ring", x.give(), 0);
        check.order("of a ring", x, 0, 1, 2, 3);
        check.colours("of a ring", x, 1, 0, 1, 0);
    }

    /** With two neighbours and two colours the point 0 is not taken out before 3 is. */
    private static void fewerThanTheColoursIsStrict() {
        PointColours x = Check.graph(4, 2, Check.edge(0, 1), Check.edge(0, 2), Check.edge(1, 2));
        x.cost(0, 1);
        check.due("give() of a triangle and a point", x.give(), 1);
        check.order("of a triangle and a point", x, 3, 1, 0, 2);
        check.colours("of a triangle and a point", x, 1, -1, 0, 0);
    }

    private static void givingAgainAnswersTheSame() {
        PointColours x = Check.graph(5, 2, Check.edge(0, 1), Check.edge(1, 2), Check.edge(2, 3), Check.edge(3, 4),
                Check.edge(4, 0));
        for (int time = 1; time <= 3; time++) {
            check.due("give() of a ring of five", x.give(), 1);
            check.colours("of a ring of five", x, -1, 1, 0, 1, 0);
            check.order("of a ring of five", x, 0, 1, 2, 3, 4);
        }
    }

    private static void wrongPlaces() {
        PointColours x = Check.graph(3, 2);
        x.give();
        for (int none : Check.noPoints(3)) {
            check.due("colour(" + none + ")", x.colour(none), -1);
            check.due("taken(" + none + ")", x.taken(none), -1);
        }
        x.begin(200, 1);
        x.give();
        check.due("colour(199)", x.colour(199), 0);
        check.due("taken(199)", x.taken(199), 199);
        check.due("colour(200)", x.colour(200), -1);
        check.due("taken(200)", x.taken(200), -1);
    }

    private static void colourlessPairsAreNoStrays() {
        PointColours x = Check.complete(6, 1);
        check.due("give() of six joined points", x.give(), 5);
        check.due("strays() of six joined points", x.strays(), 0);
    }
}
