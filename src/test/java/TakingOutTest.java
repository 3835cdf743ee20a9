/** What the document says of taking out, under GIVING COLOURS: each bound from both sides. */
final class TakingOutTest {
    private static final int MOST_COST = 1000000;
    private static final Check check = new Check();

    public static void main(String[] args) {
        everyPointIsTakenOutOnce();
        fewerThanTheColours();
        fewerThanOneColour();
        onlyNeighboursStillInAreCounted();
        leastNumberGoesBeforeFewestNeighbours();
        costIsAskedOnlyIfThereIsNone();
        costIsForTheNeighbours();
        costIsForTheNeighboursStillIn();
        largestProducts();
        nearestQuotients();
        costOfNothing();
        equalOnesGoByNumber();
        check.end();
    }

    /** One point joined to all others; all of them have a neighbour, so that one colour leaves the choice to cost. */
    private static PointColours star(int n, int centre) {
        PointColours x = Check.graph(n, 1);
        for (int a = 0; a < n; a++) {
            x.join(centre, a);
        }
        return x;
    }

    /** "first all points are taken out, one by one". */
    private static void everyPointIsTakenOutOnce() {
        PointColours x = Check.graph(200, 3);
        for (int i = 0; i < 300; i++) {
            x.join(i * 7 % 200, (i * 13 + 5) % 200);
        }
        x.give();
        boolean[] seen = new boolean[200];
        for (int i = 0; i < 200; i++) {
            int p = x.taken(i);
            boolean isNew = p >= 0 && p < 200 && !seen[p];
            check.due("taken(" + i + ") is a point not seen before", isNew, true);
            if (isNew) {
                seen[p] = true;
            }
        }
    }

    /** "the least number that has fewer than k neighbours still in": k - 1 are fewer, k and k + 1 are not. */
    private static void fewerThanTheColours() {
        for (int k = 2; k <= 30; k++) {
            firstOfStar(k, k - 1, 0, 1, 2);
            firstOfStar(k, k, 1, 0, 2);
            firstOfStar(k, k + 1, 1, 2, 0);
        }
    }

    private static void firstOfStar(int k, int leaves, int... want) {
        PointColours x = Check.graph(40, k);
        for (int a = 1; a <= leaves; a++) {
            x.join(0, a);
        }
        x.give();
        check.order("with " + k + " colours and " + leaves + " leaves", x, want);
    }

    /** "fewer than k neighbours still in" with the least k: none at all. */
    private static void fewerThanOneColour() {
        PointColours x = Check.graph(4, 1, Check.edge(0, 1));
        x.cost(2, MOST_COST);
        x.give();
        check.order("with one colour", x, 2, 3, 0, 1);
    }

    /**
     * "neighbours still in": the point 0 goes by cost, and lets 199 go, which lets 198 go, and so on down to 101. The
     * ring that is left goes by cost once more, and then upwards in the same way.
     */
    private static void onlyNeighboursStillInAreCounted() {
        PointColours x = Check.graph(200, 2, Check.edge(0, 10), Check.edge(0, 199), Check.edge(1, 100));
        for (int a = 1; a < 199; a++) {
            x.join(a, a + 1);
        }
        x.give();
        for (int i = 0; i < 200; i++) {
            int want = i == 0 ? 0 : i < 100 ? 200 - i : i - 99;
            check.due("taken(" + i + ") of a ring with a tail", x.taken(i), want);
        }
    }

    /** "the one with the least number that has fewer than k": not the one that has fewest. */
    private static void leastNumberGoesBeforeFewestNeighbours() {
        PointColours x = Check.graph(5, 3, Check.edge(0, 3), Check.edge(0, 4), Check.edge(1, 4));
        x.give();
        check.order("with two, one and no neighbours", x, 0, 1, 2, 3, 4);
    }

    /** "if there is none": a point with few neighbours goes first, whatever it and the others cost. */
    private static void costIsAskedOnlyIfThereIsNone() {
        PointColours x = Check.graph(4, 2, Check.edge(0, 1), Check.edge(0, 2), Check.edge(1, 2), Check.edge(2, 3));
        x.cost(3, MOST_COST);
        x.cost(0, 2);
        x.cost(1, 1);
        x.cost(2, 3);
        x.give();
        check.order("with one of few neighbours", x, 3, 1, 0, 2);
    }

    /** "that whose cost is least for its neighbours": dearer, but for more neighbours. */
    private static void costIsForTheNeighbours() {
        PointColours x = star(4, 3);
        for (int a = 0; a < 3; a++) {
            x.cost(a, 2);
        }
        x.cost(3, 5);
        x.give();
        check.order("with 2 for 1 and 5 for 3", x, 3, 0, 1, 2);
        x.cost(3, 7);
        x.give();
        check.order("with 2 for 1 and 7 for 3, then 2", x, 0, 1, 2, 3);
    }

    /** "its neighbours still in": 12 is for four neighbours at first, and for two after the two leaves are out. */
    private static void costIsForTheNeighboursStillIn() {
        PointColours x = Check.graph(5, 2, Check.edge(2, 0), Check.edge(2, 1), Check.edge(2, 3), Check.edge(2, 4),
                Check.edge(3, 4));
        x.cost(2, 12);
        x.cost(3, 10);
        x.cost(4, 11);
        x.give();
        check.order("with 12 for 2 and 10 for 2", x, 0, 1, 3, 2, 4);
        x.cost(2, 9);
        x.give();
        check.order("with 9 for 2 and 10 for 2", x, 0, 1, 2, 3, 4);
    }

    /** "(c / d is less than e / f if c * f is less than e * d)": the largest cost and the most neighbours. */
    private static void largestProducts() {
        firstOfLargeStar(0, MOST_COST, 5025, 1);
        firstOfLargeStar(0, MOST_COST, 5026, 0);
        firstOfLargeStar(199, MOST_COST, 5025, 0);
        firstOfLargeStar(199, MOST_COST, 5026, 199);
        firstOfLargeStar(199, MOST_COST, MOST_COST, 199);
        firstOfLargeStar(0, 1, 0, 1);
        firstOfLargeStar(199, 0, 1, 199);
    }

    private static void firstOfLargeStar(int centre, int centreCost, int leafCost, int want) {
        PointColours x = star(200, centre);
        for (int a = 0; a < 200; a++) {
            x.cost(a, a == centre ? centreCost : leafCost);
        }
        x.give();
        check.due("taken(0) with " + centreCost + " for 199 at " + centre + " and " + leafCost + " for 1",
                x.taken(0), want);
    }

    /** "if c * f is less than e * d": by 1 alone, which short numbers with a point would not tell apart. */
    private static void nearestQuotients() {
        firstOfTwoHubs(989902, 999901, 199);
        firstOfTwoHubs(989901, 999901, 0);
        firstOfTwoHubs(990000, 1000000, 0);
        firstOfTwoHubs(990000, 999999, 199);
    }

    /** The point 0 has 99 neighbours and the point 199 has 100; the points between them are dearer by far. */
    private static void firstOfTwoHubs(int costOf0, int costOf199, int want) {
        PointColours x = Check.graph(200, 1);
        for (int a = 1; a <= 198; a++) {
            x.join(a < 100 ? 0 : 199, a);
            x.cost(a, MOST_COST);
        }
        x.join(99, 199);
        x.cost(0, costOf0);
        x.cost(199, costOf199);
        x.give();
        check.due("taken(0) with " + costOf0 + " for 99 and " + costOf199 + " for 100", x.taken(0), want);
    }

    /** The cost 0 is as little for one neighbour as for many. */
    private static void costOfNothing() {
        firstOfLargeStar(199, 0, 0, 0);
        firstOfLargeStar(0, 0, 0, 0);
        PointColours x = star(4, 2);
        x.cost(0, 1);
        x.give();
        check.order("with 1 for 1 and 0 for any", x, 1, 2, 0, 3);
    }

    /** "of equal ones the least number": equal quotients of unlike numbers, and one that is just less. */
    private static void equalOnesGoByNumber() {
        firstOfLargeStar(199, 999975, 5025, 0);
        firstOfLargeStar(199, 999974, 5025, 199);
        firstOfLargeStar(0, 999975, 5025, 0);
        firstOfLargeStar(0, 999976, 5025, 1);
        PointColours x = Check.complete(5, 1);
        for (int a = 0; a < 5; a++) {
            x.cost(a, MOST_COST);
        }
        x.give();
        check.order("with the largest cost for all", x, 0, 1, 2, 3, 4);
    }
}
