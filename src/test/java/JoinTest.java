/** Promises 3, 9 and 10: join, joined and degree. Their sentences part by part, each from both sides. */
final class JoinTest {
    private static final Check check = new Check();

    /** Points at the borders of words of bits; few enough that all their pairs can be asked within 512 calls. */
    private static final int[] PLACES = {0, 1, 31, 32, 62, 63, 64, 65, 127, 128, 191, 192, 198, 199};

    public static void main(String[] args) {
        joinsBothWays();
        everyPairHasItsOwnEdge();
        refusesWhatIsNoPoint();
        refusesTheSame();
        refusesWhatIsJoinedAlready();
        dropsTheColours();
        refusedJoinChangesNothing();
        onlyTwoPointsAreJoined();
        leastAndLargestDegree();
        noSuchPointHasADegree();
        check.end();
    }

    /** "Joins two points: true". */
    private static void joinsBothWays() {
        PointColours x = Check.graph(4, 2);
        check.due("joined(1, 3) at first", x.joined(1, 3), false);
        check.due("join(1, 3)", x.join(1, 3), true);
        check.due("joined(1, 3)", x.joined(1, 3), true);
        check.due("joined(3, 1)", x.joined(3, 1), true);
        check.due("joined(1, 2)", x.joined(1, 2), false);
        check.due("joined(1, 1)", x.joined(1, 1), false);
        check.due("join(3, 0)", x.join(3, 0), true);
        int[] degrees = {x.degree(0), x.degree(1), x.degree(2), x.degree(3)};
        check.due("degrees", degrees, new int[] {1, 1, 0, 2});
    }

    private static void everyPairHasItsOwnEdge() {
        for (int a : PLACES) {
            for (int b : PLACES) {
                if (a != b) {
                    onlyOneEdge(a, b);
                }
            }
        }
    }

    private static void onlyOneEdge(int a, int b) {
        PointColours x = Check.graph(200, 2, Check.edge(a, b));
        int found = 0;
        int ends = 0;
        for (int p = 0; p < 200; p++) {
            ends += x.degree(p);
        }
        for (int p : PLACES) {
            for (int q : PLACES) {
                found += x.joined(p, q) ? 1 : 0;
            }
        }
        check.due("pairs joined by join(" + a + ", " + b + ")", found, 2);
        check.due("sum of the degrees", ends, 2);
        check.due("joined(" + a + ", " + b + ")", x.joined(a, b), true);
        check.due("joined(" + b + ", " + a + ")", x.joined(b, a), true);
        check.due("degree(" + a + ")", x.degree(a), 1);
        check.due("degree(" + b + ")", x.degree(b), 1);
    }

    /** "false if one is none": the first, the second, or both. */
    private static void refusesWhatIsNoPoint() {
        for (int n : new int[] {1, 3, 64, 200}) {
            PointColours x = Check.graph(n, 2);
            for (int none : Check.noPoints(n)) {
                check.due("join(0, " + none + ") of " + n, x.join(0, none), false);
                check.due("join(" + none + ", 0) of " + n, x.join(none, 0), false);
                check.due("join(" + (n - 1) + ", " + none + ") of " + n, x.join(n - 1, none), false);
                check.due("join(" + none + ", itself) of " + n, x.join(none, none), false);
                check.due("join(" + none + ", -1) of " + n, x.join(none, -1), false);
            }
            check.due("degree(0) after refusals of " + n, x.degree(0), 0);
            check.due("degree(" + (n - 1) + ") after refusals of " + n, x.degree(n - 1), 0);
        }
    }

    /** "they are the same". */
    private static void refusesTheSame() {
        PointColours x = Check.graph(200, 2);
        for (int a : PLACES) {
            check.due("join(" + a + ", " + a + ")", x.join(a, a), false);
            check.due("joined(" + a + ", " + a + ")", x.joined(a, a), false);
            check.due("degree(" + a + ")", x.degree(a), 0);
        }
    }

    /** "or joined already": either way round, and not for the other pairs of the two points. */
    private static void refusesWhatIsJoinedAlready() {
        PointColours x = Check.graph(3, 2, Check.edge(0, 1));
        check.due("join(0, 1) again", x.join(0, 1), false);
        check.due("join(1, 0) again", x.join(1, 0), false);
        check.due("degree(0) after refusals", x.degree(0), 1);
        check.due("degree(1) after refusals", x.degree(1), 1);
        check.due("join(2, 0)", x.join(2, 0), true);
        check.due("join(1, 2)", x.join(1, 2), true);
        for (int pair = 0; pair < 9; pair++) {
            check.due("join(" + pair / 3 + ", " + pair % 3 + ") in full", x.join(pair / 3, pair % 3), false);
        }
        check.due("degree(2) in full", x.degree(2), 2);
    }

    /** "No colours are given then". */
    private static void dropsTheColours() {
        PointColours x = Check.graph(3, 2);
        x.give();
        check.due("join(0, 1)", x.join(0, 1), true);
        check.colours("after join", x, -1, -1, -1);
        check.order("after join", x, -1, -1, -1);
        check.due("strays() after join", x.strays(), 0);
        x.give();
        check.colours("given anew", x, 1, 0, 0);
    }

    private static void refusedJoinChangesNothing() {
        PointColours x = Check.graph(3, 2, Check.edge(0, 1));
        x.give();
        int[] before = Check.looks(x, 3);
        x.join(0, 1);
        x.join(1, 0);
        x.join(2, 2);
        for (int none : Check.noPoints(3)) {
            x.join(0, none);
            x.join(none, 2);
            x.join(none, none);
        }
        check.due("looks after refused joins", Check.looks(x, 3), before);
        check.colours("after refused joins", x, 1, 0, 0);
        check.order("after refused joins", x, 0, 1, 2);
        check.due("give() after refused joins", x.give(), 0);
        check.due("looks after refused joins and give()", Check.looks(x, 3), before);
    }

    /** Promise 9, "Whether two points are joined": what is no point is joined to none. */
    private static void onlyTwoPointsAreJoined() {
        for (int n : new int[] {2, 64, 200}) {
            PointColours x = Check.graph(n, 2, Check.edge(0, n - 1));
            check.due("joined(0, " + (n - 1) + ")", x.joined(0, n - 1), true);
            check.due("joined(" + (n - 1) + ", 0)", x.joined(n - 1, 0), true);
            for (int none : Check.noPoints(n)) {
                check.due("joined(0, " + none + ") of " + n, x.joined(0, none), false);
                check.due("joined(" + none + ", 0) of " + n, x.joined(none, 0), false);
                check.due("joined(" + (n - 1) + ", " + none + ") of " + n, x.joined(n - 1, none), false);
                check.due("joined(" + none + ", " + (n - 1) + ") of " + n, x.joined(none, n - 1), false);
                check.due("joined(" + none + ", itself) of " + n, x.joined(none, none), false);
            }
        }
    }

    /** Promise 10, "How many neighbours a point has": 0 at least and 199 at most. */
    private static void leastAndLargestDegree() {
        for (int centre : new int[] {0, 100, 199}) {
            PointColours x = Check.graph(200, 2);
            for (int a = 0; a < 200; a++) {
                check.due("degree(" + centre + ") on the way", x.degree(centre), a <= centre ? a : a - 1);
                x.join(a, centre);
            }
            check.due("degree(" + centre + ") in full", x.degree(centre), 199);
            check.due("degree of a leaf of " + centre, x.degree((centre + 1) % 200), 1);
        }
        check.due("degree(0) of one point", new PointColours().degree(0), 0);
    }

    /** Promise 10, "-1 if there is none such". */
    private static void noSuchPointHasADegree() {
        for (int n : new int[] {1, 2, 64, 200}) {
            PointColours x = Check.graph(n, 2);
            check.due("degree(" + (n - 1) + ") of " + n, x.degree(n - 1), 0);
            for (int none : Check.noPoints(n)) {
                check.due("degree(" + none + ") of " + n, x.degree(none), -1);
            }
        }
    }
}
