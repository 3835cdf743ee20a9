/** Promises 3, 9 and 10: join, joined and degree. */
final class JoinTest {
    private static final Check check = new Check();

    /** Points at the borders of words of bits; few enough that all their pairs can be asked within 512 calls. */
    private static final int[] PLACES = {0, 1, 31, 32, 62, 63, 64, 65, 127, 128, 191, 192, 198, 199};

    public static void main(String[] args) {
        joinsBothWays();
        everyPairHasItsOwnEdge();
        refusals();
        dropsTheColours();
        refusedJoinKeepsTheColours();
        check.end();
    }

    private static void joinsBothWays() {
        PointColours x = Check.graph(4, 2);
        check.due("joined(1, 3) at first", x.joined(1, 3), false);
        check.due("join(1, 3)", x.join(1, 3), true);
        check.due("joined(1, 3)", x.joined(1, 3), true);
        check.due("joined(3, 1)", x.joined(3, 1), true);
        check.due("joined(1, 2)", x.joined(1, 2), false);
        check.due("joined(1, 1)", x.joined(1, 1), false);
        check.due("join(3, 0)", x.join(3, 0), true);
        int[] degrees = {x.degree(0), x.degree(1), x.degree(2), x.degree(3)};
        check.due("degrees", degrees, new int[] {1, 1, 0, 2});
    }

    private static void everyPairHasItsOwnEdge() {
        for (int a : PLACES) {
            for (int b : PLACES) {
                if (a != b) {
                    onlyOneEdge(a, b);
                }
            }
        }
    }

    private static void onlyOneEdge(int a, int b) {
        PointColours x = Check.graph(200, 2, Check.edge(a, b));
        int found = 0;
        int ends = 0;
        for (int p = 0; p < 200; p++) {
            ends += x.degree(p);
        }
        for (int p : PLACES) {
            for (int q : PLACES) {
                found += x.joined(p, q) ? 1 : 0;
            }
        }
        check.due("pairs joined by join(" + a + ", " + b + ")", found, 2);
        check.due("sum of the degrees", ends, 2);
        check.due("joined(" + a + ", " + b + ")", x.joined(a, b), true);
        check.due("joined(" + b + ", " + a + ")", x.joined(b, a), true);
        check.due("degree(" + a + ")", x.degree(a), 1);
        check.due("degree(" + b + ")", x.degree(b), 1);
    }

    private static void refusals() {
        PointColours x = Check.graph(3, 2, Check.edge(0, 1));
        check.due("join(0, 1) again", x.join(0, 1), false);
        check.due("join(1, 0) again", x.join(1, 0), false);
        check.due("join(2, 2)", x.join(2, 2), false);
        for (int none : Check.noPoints(3)) {
            check.due("join(0, " + none + ")", x.join(0, none), false);
            check.due("join(" + none + ", 0)", x.join(none, 0), false);
            check.due("join(" + none + ", itself)", x.join(none, none), false);
            check.due("joined(0, " + none + ")", x.joined(0, none), false);
            check.due("joined(" + none + ", 0)", x.joined(none, 0), false);
            check.due("joined(" + none + ", itself)", x.joined(none, none), false);
            check.due("degree(" + none + ")", x.degree(none), -1);
        }
        check.due("degree(0) after refusals", x.degree(0), 1);
        check.due("degree(1) after refusals", x.degree(1), 1);
        check.due("degree(2) after refusals", x.degree(2), 0);
    }

    private static void dropsTheColours() {
        PointColours x = Check.graph(3, 2);
        x.give();
        check.due("join(0, 1)", x.join(0, 1), true);
        check.colours("after join", x, -1, -1, -1);
        check.order("after join", x, -1, -1, -1);
        check.due("strays() after join", x.strays(), 0);
        x.give();
        check.colours("given anew", x, 1, 0, 0);
    }

    private static void refusedJoinKeepsTheColours() {
        PointColours x = Check.graph(3, 2, Check.edge(0, 1));
        x.give();
        x.join(1, 0);
        x.join(2, 2);
        x.join(0, 3);
        x.join(-1, 0);
        check.colours("after refused joins", x, 1, 0, 0);
        check.order("after refused joins", x, 0, 1, 2);
    }
}
