/** Promise 5: wish, and the colours that wishes bring. */
final class WishTest {
    private static final Check check = new Check();

    public static void main(String[] args) {
        refusals();
        wishIsMet();
        wishIsReplacedAndTakenBack();
        neighbourBarsTheWish();
        wishedPointIsNeighbour();
        wishedPointIsNotBackYet();
        wishedPointHasNoColour();
        wishesGoAlongAChain();
        dropsTheColours();
        refusedWishChangesNothing();
        check.end();
    }

    private static void refusals() {
        PointColours x = Check.graph(3, 2);
        for (int none : Check.noPoints(3)) {
            check.due("wish(0, " + none + ")", x.wish(0, none), false);
            check.due("wish(" + none + ", 0)", x.wish(none, 0), false);
            check.due("wish(" + none + ", itself)", x.wish(none, none), false);
        }
        check.due("wish(0, 2)", x.wish(0, 2), true);
        check.due("wish(2, 2)", x.wish(2, 2), true);
    }

    private static void wishIsMet() {
        PointColours x = Check.graph(4, 3, Check.edge(2, 3));
        x.wish(0, 2);
        x.wish(1, 3);
        check.due("give()", x.give(), 0);
        check.colours("with wishes", x, 1, 0, 1, 0);
    }

    private static void wishIsReplacedAndTakenBack() {
        PointColours x = Check.graph(4, 3, Check.edge(2, 3));
        x.wish(0, 3);
        x.wish(0, 2);
        x.give();
        check.colours("with a new wish", x, 1, 0, 1, 0);
        check.due("wish(0, 0)", x.wish(0, 0), true);
        x.give();
        check.colours("without a wish", x, 0, 0, 1, 0);
    }

    private static void neighbourBarsTheWish() {
        PointColours x = Check.graph(5, 3, Check.edge(3, 4), Check.edge(2, 4), Check.edge(0, 2));
        x.wish(0, 3);
        x.give();
        check.colours("with a barred wish", x, 0, 0, 1, 1, 0);
    }

    private static void wishedPointIsNeighbour() {
        PointColours x = Check.graph(2, 2, Check.edge(0, 1));
        x.wish(0, 1);
        x.give();
        check.colours("with a neighbour wished", x, 1, 0);
        check.due("strays()", x.strays(), 0);
    }

    /** The second giving must not see the first one's colour of the point 0. */
    private static void wishedPointIsNotBackYet() {
        PointColours x = Check.graph(3, 3, Check.edge(0, 1));
        x.wish(2, 0);
        x.give();
        check.colours("with a wish that comes later", x, 1, 0, 0);
        x.give();
        check.colours("with that given twice", x, 1, 0, 0);
        x.cost(0, 1);
        x.give();
        check.colours("with that given thrice", x, 1, 0, 0);
    }

    private static void wishedPointHasNoColour() {
        PointColours x = Check.graph(3, 1, Check.edge(1, 2));
        x.wish(0, 1);
        check.due("give()", x.give(), 1);
        check.colours("with a wish for none", x, 0, -1, 0);
    }

    private static void wishesGoAlongAChain() {
        PointColours x = Check.graph(6, 30, Check.edge(5, 4), Check.edge(5, 3), Check.edge(4, 3));
        x.wish(2, 3);
        x.wish(1, 2);
        x.wish(0, 1);
        x.give();
        check.colours("with a chain of wishes", x, 2, 2, 2, 2, 1, 0);
    }

    private static void dropsTheColours() {
        PointColours x = Check.graph(2, 1);
        x.give();
        check.due("wish(0, 1)", x.wish(0, 1), true);
        check.colours("after wish", x, -1, -1);
        check.order("after wish", x, -1, -1);
        x.give();
        check.due("wish(1, 1), as it was", x.wish(1, 1), true);
        check.colours("after wish for itself", x, -1, -1);
    }

    private static void refusedWishChangesNothing() {
        PointColours x = Check.graph(4, 3, Check.edge(2, 3));
        x.wish(0, 2);
        x.give();
        x.wish(0, 4);
        x.wish(0, -1);
        x.wish(4, 0);
        x.wish(4, 4);
        check.colours("after refused wishes", x, 1, 0, 1, 0);
        check.order("after refused wishes", x, 0, 1, 2, 3);
        x.give();
        check.colours("given anew after refused wishes", x, 1, 0, 1, 0);
    }
}
