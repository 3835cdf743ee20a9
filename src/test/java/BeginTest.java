/** Promise 2: begin. */
final class BeginTest {
    private static final Check check = new Check();

    public static void main(String[] args) {
        numbersOfPoints();
        numbersOfColours();
        clearsEverything();
        edgesOfALargerGraphAreGone();
        refusedBeginChangesNothing();
        check.end();
    }

    private static void numbersOfPoints() {
        PointColours x = new PointColours();
        for (int n : new int[] {1, 2, 63, 64, 65, 128, 199, 200}) {
            check.due("begin(" + n + ", 1)", x.begin(n, 1), true);
            check.due("degree of the last of " + n, x.degree(n - 1), 0);
            check.due("degree after the last of " + n, x.degree(n), -1);
            check.due("give() with " + n, x.give(), 0);
            check.due("taken last of " + n, x.taken(n - 1), n - 1);
        }
        for (int n : new int[] {0, -1, 201, 202, 1000, Integer.MIN_VALUE, Integer.MAX_VALUE}) {
            check.due("begin(" + n + ", 1)", x.begin(n, 1), false);
        }
    }

    private static void numbersOfColours() {
        PointColours x = new PointColours();
        for (int k = 1; k <= 30; k++) {
            check.due("begin(5, " + k + ")", x.begin(5, k), true);
        }
        for (int k : new int[] {0, -1, 31, 32, 33, 64, Integer.MIN_VALUE, Integer.MAX_VALUE}) {
            check.due("begin(5, " + k + ")", x.begin(5, k), false);
        }
    }

    private static void clearsEverything() {
        PointColours x = Check.graph(3, 1, Check.edge(0, 1), Check.edge(1, 2));
        x.cost(0, 7);
        x.give();
        check.due("begin(3, 1) again", x.begin(3, 1), true);
        check.due("joined(0, 1) after begin", x.joined(0, 1), false);
        check.due("degree(1) after begin", x.degree(1), 0);
        check.colours("after begin", x, -1, -1, -1);
        check.order("after begin", x, -1, -1, -1);
        check.due("strays() after begin", x.strays(), 0);
        x.join(0, 1);
        x.join(0, 2);
        x.join(1, 2);
        x.give();
        check.order("when the old cost is gone", x, 0, 1, 2);

        x = Check.graph(4, 3, Check.edge(2, 3));
        x.wish(0, 2);
        x.give();
        check.colours("with a wish", x, 1, 0, 1, 0);
        x.begin(4, 3);
        x.join(2, 3);
        x.give();
        check.colours("when the old wish is gone", x, 0, 0, 1, 0);
    }

    private static void edgesOfALargerGraphAreGone() {
        PointColours x = Check.graph(200, 30, Check.edge(0, 199), Check.edge(198, 199), Check.edge(5, 100));
        x.begin(2, 2);
        check.due("joined(198, 199) in a small graph", x.joined(198, 199), false);
        x.begin(200, 30);
        check.due("joined(198, 199) in a new graph", x.joined(198, 199), false);
        check.due("joined(5, 100) in a new graph", x.joined(5, 100), false);
        check.due("degree(199) in a new graph", x.degree(199), 0);
    }

    private static void refusedBeginChangesNothing() {
        PointColours x = Check.graph(3, 2, Check.edge(0, 1));
        x.give();
        check.due("begin(0, 1)", x.begin(0, 1), false);
        check.due("begin(4, 0)", x.begin(4, 0), false);
        check.due("begin(4, 31)", x.begin(4, 31), false);
        check.due("begin(201, 1)", x.begin(201, 1), false);
        check.colours("after a refused begin", x, 1, 0, 0, -1);
        check.order("after a refused begin", x, 0, 1, 2, -1);
        check.due("joined(0, 1) after a refused begin", x.joined(0, 1), true);
        check.due("give() after a refused begin", x.give(), 0);
    }
}
