/** What the document says of coming back, under GIVING COLOURS: each bound from both sides. */
final class PuttingBackTest {
    private static final Check check = new Check();

    public static void main(String[] args) {
        lastTakenOutComesFirst();
        wishBringsTheLargestColour();
        wishHasNoColourByThen();
        wishGotNone();
        neighbourHasTheWishedColour();
        colourlessNeighbourDoesNotBar();
        neighbourNotYetBackDoesNotBar();
        leastColourFillsTheGap();
        lastFreeColour();
        noColourIsFree();
        noColourIsFreeForAWish();
        manyNeighboursMayShareAColour();
        check.end();
    }

    /** The points 1 .. k are joined each to each, so that they get the colours k - 1 .. 0; the point 0 stands alone. */
    private static PointColours crowdOf(int k) {
        PointColours x = Check.graph(k + 1, k);
        for (int a = 1; a <= k; a++) {
            for (int b = a + 1; b <= k; b++) {
                x.join(a, b);
            }
        }
        return x;
    }

    /** "Then they come back, the last taken out first". */
    private static void lastTakenOutComesFirst() {
        PointColours x = Check.graph(4, 2, Check.edge(0, 1), Check.edge(1, 2), Check.edge(2, 3));
        x.give();
        check.order("of a path", x, 0, 1, 2, 3);
        check.colours("of a path", x, 1, 0, 1, 0);
    }

    /** "a point gets its wish's colour": the last of 1 .. 30 colours, though all others are free too. */
    private static void wishBringsTheLargestColour() {
        for (int k = 1; k <= 30; k++) {
            PointColours x = crowdOf(k);
            x.wish(0, 1);
            check.due("give() with " + k + " colours", x.give(), 0);
            check.due("colour(1) of " + k, x.colour(1), k - 1);
            check.due("colour(0) of " + k + ", as wished", x.colour(0), k - 1);
        }
    }

    /** "if the wish has one by then": the wish comes back later, and what it had before counts no more. */
    private static void wishHasNoColourByThen() {
        PointColours x = Check.graph(3, 2, Check.edge(0, 2));
        x.wish(1, 0);
        x.give();
        check.colours("with a wish that comes later", x, 1, 0, 0);
        x.give();
        check.colours("with a wish that had a colour before", x, 1, 0, 0);
    }

    /** "if the wish has one by then": it came back, but got none. */
    private static void wishGotNone() {
        PointColours x = Check.graph(5, 2, Check.edge(2, 3), Check.edge(2, 4), Check.edge(3, 4), Check.edge(0, 4));
        x.wish(0, 2);
        x.wish(1, 2);
        check.due("give() with a triangle", x.give(), 1);
        check.order("with a triangle", x, 0, 1, 2, 3, 4);
        check.colours("with a wish that got none", x, 1, 0, -1, 1, 0);
    }

    /** "and no neighbour that has one has that": the colour is lent if no neighbour has it, and barred if one has. */
    private static void neighbourHasTheWishedColour() {
        PointColours x = Check.graph(5, 3, Check.edge(1, 4), Check.edge(2, 4), Check.edge(0, 3));
        x.wish(0, 2);
        x.give();
        check.colours("with a free wish", x, 1, 1, 1, 0, 0);
        x.join(0, 1);
        x.give();
        check.colours("with a barred wish", x, 2, 1, 1, 0, 0);
    }

    /** "no neighbour that has one": the point 1 got no colour, so it bars none. */
    private static void colourlessNeighbourDoesNotBar() {
        PointColours x = Check.graph(4, 1, Check.edge(0, 1), Check.edge(1, 2));
        x.cost(0, 1);
        x.cost(2, 1);
        x.wish(0, 3);
        check.due("give() of a path and one colour", x.give(), 1);
        check.order("of a path and one colour", x, 3, 1, 0, 2);
        check.colours("of a path and one colour", x, 0, -1, 0, 0);
    }

    /** "no neighbour that has one": the neighbour 0 of 1 comes back later; its colour of the giving before is gone. */
    private static void neighbourNotYetBackDoesNotBar() {
        PointColours x = Check.graph(4, 3, Check.edge(0, 1));
        x.give();
        check.colours("of a pair", x, 1, 0, 0, 0);
        x.join(2, 3);
        x.wish(1, 2);
        x.give();
        check.colours("of a pair with a wish", x, 0, 1, 1, 0);
        x.give();
        check.colours("of a pair with a wish, once more", x, 0, 1, 1, 0);
    }

    /** "else the least colour that no neighbour has": between two that neighbours have, and below one. */
    private static void leastColourFillsTheGap() {
        PointColours x = Check.graph(6, 4, Check.edge(3, 4), Check.edge(3, 5), Check.edge(4, 5), Check.edge(0, 3),
                Check.edge(0, 5), Check.edge(1, 3), Check.edge(1, 4), Check.edge(2, 5));
        x.give();
        check.colours("with gaps", x, 1, 0, 1, 2, 1, 0);
    }

    /** "the least colour that no neighbour has": only the last of 1 .. 30 is left. */
    private static void lastFreeColour() {
        for (int k = 2; k <= 30; k++) {
            PointColours x = crowdOf(k);
            for (int a = 2; a <= k; a++) {
                x.join(0, a);
            }
            check.due("give() with the last of " + k + " colours free", x.give(), 0);
            check.due("colour(0) of " + k, x.colour(0), k - 1);
        }
    }

    /** "none if there is no such colour": all of 1 .. 30 are around it. */
    private static void noColourIsFree() {
        for (int k = 1; k <= 30; k++) {
            PointColours x = Check.complete(k + 1, k);
            check.due("give() with none of " + k + " colours free", x.give(), 1);
            check.due("colour(0) of " + k, x.colour(0), -1);
            check.due("colour(1) of " + k, x.colour(1), k - 1);
        }
    }

    /** "none if there is no such colour": a wish does not help, though it has a colour by then. */
    private static void noColourIsFreeForAWish() {
        for (int wished : new int[] {4, 5}) {
            PointColours x = Check.graph(6, 2, Check.edge(0, 1), Check.edge(0, 2), Check.edge(1, 2),
                    Check.edge(3, 4), Check.edge(3, 5), Check.edge(4, 5));
            x.wish(0, wished);
            check.due("give() of two triangles with a wish for " + wished, x.give(), 2);
            check.order("of two triangles with a wish for " + wished, x, 0, 1, 2, 3, 4, 5);
            check.colours("of two triangles with a wish for " + wished, x, -1, 1, 0, -1, 1, 0);
        }
    }

    /** "none if there is no such colour": more neighbours than colours leave one free if they share theirs. */
    private static void manyNeighboursMayShareAColour() {
        PointColours x = Check.graph(200, 2);
        for (int a = 0; a < 199; a++) {
            x.join(199, a);
        }
        check.due("give() of a star", x.give(), 0);
        check.due("colour(199)", x.colour(199), 0);
        for (int a = 0; a < 199; a++) {
            check.due("colour(" + a + ") of a leaf", x.colour(a), 1);
        }
    }
}
