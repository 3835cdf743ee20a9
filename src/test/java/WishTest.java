/** Promise 5: wish, its sentence part by part, and the colours that wishes bring. */
final class WishTest {
    private static final Check check = new Check();

    public static void main(String[] args) {
        refusesWhatIsNoPoint();
        wishForItselfIsNone();
        wishForItselfWhenThereWasNone();
        wishIsMet();
        wishIsReplacedAndTakenBack();
        neighbourBarsTheWish();
        wishedPointIsNeighbour();
        wishedPointIsNotBackYet();
        wishedPointHasNoColour();
        wishesGoAlongAChain();
        dropsTheColours();
        refusedWishChangesNothing();
        check.end();
    }

    /** "false if one is none": the first, the second, or both. */
    private static void refusesWhatIsNoPoint() {
        for (int n : new int[] {1, 3, 64, 200}) {
            PointColours x = Check.graph(n, 2);
            check.due("wish(0, " + (n - 1) + ") of " + n, x.wish(0, n - 1), true);
            check.due("wish(" + (n - 1) + ", 0) of " + n, x.wish(n - 1, 0), true);
            for (int none : Check.noPoints(n)) {
                check.due("wish(0, " + none + ") of " + n, x.wish(0, none), false);
                check.due("wish(" + none + ", 0) of " + n, x.wish(none, 0), false);
                check.due("wish(" + (n - 1) + ", " + none + ") of " + n, x.wish(n - 1, none), false);
                check.due("wish(" + none + ", itself) of " + n, x.wish(none, none), false);
                check.due("wish(" + none + ", -1) of " + n, x.wish(none, -1), false);
            }
        }
    }

    /** "(itself: none)": it takes back the wish that there was, at both ends of the largest graph. */
    private static void wishForItselfIsNone() {
        PointColours x = Check.graph(200, 3, Check.edge(0, 198), Check.edge(0, 199), Check.edge(198, 199));
        x.wish(197, 198);
        x.wish(1, 0);
        x.give();
        check.due("colour(198)", x.colour(198), 1);
        check.due("colour(197) with a wish", x.colour(197), 1);
        check.due("colour(1) with a wish that comes later", x.colour(1), 0);
        check.due("wish(197, 197)", x.wish(197, 197), true);
        x.give();
        check.due("colour(197) without a wish", x.colour(197), 0);
        x.wish(0, 198);
        check.due("wish(0, 0)", x.wish(0, 0), true);
        x.give();
        check.due("colour(0) without a wish", x.colour(0), 2);
    }

    /** "(itself: none)": true also if there was none to take back, and for the only point. */
    private static void wishForItselfWhenThereWasNone() {
        PointColours x = new PointColours();
        check.due("wish(0, 0) of one point", x.wish(0, 0), true);
        x.give();
        check.colours("of one point", x, 0);
        x = Check.graph(3, 2, Check.edge(1, 2));
        for (int a = 0; a < 3; a++) {
            check.due("wish(" + a + ", " + a + ")", x.wish(a, a), true);
        }
        check.due("give()", x.give(), 0);
        check.colours("with all wishes for itself", x, 0, 1, 0);
    }

    private static void wishIsMet() {
        PointColours x = Check.graph(4, 3, Check.edge(2, 3));
        x.wish(0, 2);
        x.wish(1, 3);
        check.due("give()", x.give(), 0);
        check.colours("with wishes", x, 1, 0, 1, 0);
    }

    private static void wishIsReplacedAndTakenBack() {
        PointColours x = Check.graph(4, 3, Check.edge(2, 3));
        x.wish(0, 3);
        x.wish(0, 2);
        x.give();
        check.colours("with a new wish", x, 1, 0, 1, 0);
        check.due("wish(0, 0)", x.wish(0, 0), true);
        x.give();
        check.colours("without a wish", x, 0, 0, 1, 0);
    }

    private static void neighbourBarsTheWish() {
        PointColours x = Check.graph(5, 3, Check.edge(3, 4), Check.edge(2, 4), Check.edge(0, 2));
        x.wish(0, 3);
        x.give();
        check.colours("with a barred wish", x, 0, 0, 1, 1, 0);
    }

    private static void wishedPointIsNeighbour() {
        PointColours x = Check.graph(2, 2, Check.edge(0, 1));
        x.wish(0, 1);
        x.give();
        check.colours("with a neighbour wished", x, 1, 0);
        check.due("strays()", x.strays(), 0);
    }

    /** The second giving must not see the first one's colour of the point 0. */
    private static void wishedPointIsNotBackYet() {
        PointColours x = Check.graph(3, 3, Check.edge(0, 1));
        x.wish(2, 0);
        x.give();
        check.colours("with a wish that comes later", x, 1, 0, 0);
        x.give();
        check.colours("with that given twice", x, 1, 0, 0);
        x.cost(0, 1);
        x.give();
        check.colours("with that given thrice", x, 1, 0, 0);
    }

    private static void wishedPointHasNoColour() {
        PointColours x = Check.graph(3, 1, Check.edge(1, 2));
        x.wish(0, 1);
        check.due("give()", x.give(), 1);
        check.colours("with a wish for none", x, 0, -1, 0);
    }

    private static void wishesGoAlongAChain() {
        PointColours x = Check.graph(6, 30, Check.edge(5, 4), Check.edge(5, 3), Check.edge(4, 3));
        x.wish(2, 3);
        x.wish(1, 2);
        x.wish(0, 1);
        x.give();
        check.colours("with a chain of wishes", x, 2, 2, 2, 2, 1, 0);
    }

    /** "No colours are given then, here as with the next two." (promise 3), even if the wish is as it was. */
    private static void dropsTheColours() {
        PointColours x = Check.graph(2, 1);
        x.give();
        check.due("wish(0, 1)", x.wish(0, 1), true);
        check.colours("after wish", x, -1, -1);
        check.order("after wish", x, -1, -1);
        x.give();
        check.due("wish(1, 1), as it was", x.wish(1, 1), true);
        check.colours("after wish for itself", x, -1, -1);
        check.order("after wish for itself", x, -1, -1);
        x.give();
        check.due("wish(0, 1), as it was", x.wish(0, 1), true);
        check.colours("after wish as it was", x, -1, -1);
    }

    private static void refusedWishChangesNothing() {
        PointColours x = Check.graph(4, 3, Check.edge(2, 3));
        x.wish(0, 2);
        x.give();
        int[] before = Check.looks(x, 4);
        for (int none : Check.noPoints(4)) {
            x.wish(0, none);
            x.wish(none, 0);
            x.wish(none, none);
        }
        check.due("looks after refused wishes", Check.looks(x, 4), before);
        check.colours("after refused wishes", x, 1, 0, 1, 0);
        check.order("after refused wishes", x, 0, 1, 2, 3);
        x.give();
        check.colours("given anew after refused wishes", x, 1, 0, 1, 0);
    }
}
