/** Promise 4: cost, its sentence part by part, and the choice by cost in giving colours. */
final class CostTest {
    private static final Check check = new Check();

    public static void main(String[] args) {
        refusesWhatIsNoPoint();
        refusesWhatIsNoCost();
        costIsReplaced();
        cheapestGoesFirst();
        equalCostsGoByNumber();
        costIsForTheNeighbours();
        quotientsAreNotRounded();
        onlyNeighboursStillInCount();
        costDoesNotMatterForFewNeighbours();
        dropsTheColours();
        refusedCostChangesNothing();
        check.end();
    }

    /** "false if there is none such". */
    private static void refusesWhatIsNoPoint() {
        for (int n : new int[] {1, 2, 64, 200}) {
            PointColours x = Check.graph(n, 1);
            check.due("cost(0, 1) of " + n, x.cost(0, 1), true);
            check.due("cost(" + (n - 1) + ", 1) of " + n, x.cost(n - 1, 1), true);
            for (int none : Check.noPoints(n)) {
                check.due("cost(" + none + ", 0) of " + n, x.cost(none, 0), false);
                check.due("cost(" + none + ", 1000000) of " + n, x.cost(none, 1000000), false);
                check.due("cost(" + none + ", -1) of " + n, x.cost(none, -1), false);
            }
        }
    }

    /** "or c is no cost": the last that are costs and the first that are none. */
    private static void refusesWhatIsNoCost() {
        PointColours x = Check.graph(2, 1);
        check.due("cost(0, 0)", x.cost(0, 0), true);
        check.due("cost(1, 1000000)", x.cost(1, 1000000), true);
        for (int c : new int[] {-1, 1000001, -1000000, Integer.MIN_VALUE, Integer.MIN_VALUE + 1,
            Integer.MAX_VALUE}) {
            check.due("cost(0, " + c + ")", x.cost(0, c), false);
        }
    }

    /** "The cost of a point": only the newest counts, and the least and the largest are kept as they are. */
    private static void costIsReplaced() {
        PointColours x = Check.complete(2, 1);
        x.cost(1, 999999);
        x.cost(0, 1000000);
        x.give();
        check.order("with 1000000 against 999999", x, 1, 0);
        x.cost(0, 999998);
        x.give();
        check.order("with 999998 against 999999", x, 0, 1);
        x.cost(0, 1);
        x.cost(1, 0);
        x.give();
        check.order("with 1 against 0", x, 1, 0);
    }

    private static void cheapestGoesFirst() {
        PointColours x = Check.complete(3, 1);
        x.cost(0, 1000000);
        x.cost(1, 999999);
        x.cost(2, 1);
        check.due("give() of three joined", x.give(), 2);
        check.order("by cost", x, 2, 1, 0);
        check.colours("by cost", x, 0, -1, -1);
        x.cost(2, 1000000);
        x.give();
        check.order("by a new cost", x, 1, 0, 2);
    }

    private static void equalCostsGoByNumber() {
        PointColours x = Check.complete(4, 1);
        x.cost(0, 6);
        x.cost(1, 5);
        x.cost(2, 5);
        x.cost(3, 5);
        x.give();
        check.order("with equal costs", x, 1, 2, 3, 0);
    }

    /** A triangle 0 1 2 and a point 3 joined to 0 and 1, so that 0 and 1 have three neighbours and 2 and 3 two. */
    private static PointColours kite() {
        return Check.graph(4, 2, Check.edge(0, 1), Check.edge(0, 2), Check.edge(1, 2), Check.edge(0, 3),
                Check.edge(1, 3));
    }

    private static void costIsForTheNeighbours() {
        PointColours x = kite();
        x.cost(0, 9);
        x.cost(1, 6);
        x.cost(2, 5);
        x.cost(3, 5);
        x.give();
        check.due("taken(0), 6 for 3", x.taken(0), 1);
        x.cost(1, 9);
        x.cost(2, 6);
        x.cost(3, 6);
        x.give();
        check.due("taken(0), 9 for 3 and 6 for 2", x.taken(0), 0);
    }

    private static void quotientsAreNotRounded() {
        PointColours x = kite();
        x.cost(0, 5);
        x.cost(1, 9);
        x.cost(2, 9);
        x.cost(3, 3);
        x.give();
        check.due("taken(0), 5 for 3 and 3 for 2", x.taken(0), 3);
        x.cost(0, 1000000);
        x.cost(1, 999999);
        x.cost(2, 1000000);
        x.cost(3, 666666);
        x.give();
        check.due("taken(0), 999999 for 3 and 666666 for 2", x.taken(0), 1);
        x.cost(3, 666665);
        x.give();
        check.due("taken(0), 999999 for 3 and 666665 for 2", x.taken(0), 3);
    }

    /** The point 0 loses its two leaves first; of four neighbours then two stand in. */
    private static void onlyNeighboursStillInCount() {
        PointColours x = Check.graph(5, 2, Check.edge(0, 1), Check.edge(0, 2), Check.edge(1, 2), Check.edge(0, 3),
                Check.edge(0, 4));
        x.cost(0, 6);
        x.cost(1, 4);
        x.cost(2, 9);
        check.due("give()", x.give(), 1);
        check.order("by neighbours still in", x, 3, 4, 1, 0, 2);
    }

    private static void costDoesNotMatterForFewNeighbours() {
        PointColours x = Check.graph(3, 2, Check.edge(0, 1));
        x.cost(0, 1000000);
        x.cost(1, 5);
        x.give();
        check.order("with few neighbours", x, 0, 1, 2);
    }

    /** "No colours are given then, here as with the next two." (promise 3), even if the cost is as it was. */
    private static void dropsTheColours() {
        PointColours x = Check.graph(2, 1);
        x.give();
        check.due("cost(1, 0), as it was", x.cost(1, 0), true);
        check.colours("after cost", x, -1, -1);
        check.order("after cost", x, -1, -1);
        x.give();
        check.due("cost(0, 1000000)", x.cost(0, 1000000), true);
        check.colours("after the largest cost", x, -1, -1);
        check.order("after the largest cost", x, -1, -1);
    }

    private static void refusedCostChangesNothing() {
        PointColours x = Check.complete(2, 1);
        x.cost(0, 3);
        x.cost(1, 2);
        x.give();
        int[] before = Check.looks(x, 2);
        for (int c : new int[] {-1, 1000001, Integer.MIN_VALUE, Integer.MAX_VALUE}) {
            x.cost(0, c);
            x.cost(1, c);
        }
        for (int none : Check.noPoints(2)) {
            x.cost(none, 0);
            x.cost(none, 1000000);
        }
        check.due("looks after refused costs", Check.looks(x, 2), before);
        check.colours("after refused costs", x, 0, -1);
        check.order("after refused costs", x, 1, 0);
        x.give();
        check.order("given anew after refused costs", x, 1, 0);
    }
}
