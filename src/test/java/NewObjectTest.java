/** Promise 1, "One point, one colour; no colours given.": each part from both sides. */
final class NewObjectTest {
    private static final Check check = new Check();

    public static void main(String[] args) {
        onePoint();
        oneColour();
        noColoursGiven();
        isAsAfterTheLeastBegin();
        refusedCallsLeaveItNew();
        twoObjectsAreApart();
        check.end();
    }

    /** "One point": 0 is one, and no other number is. */
    private static void onePoint() {
        PointColours x = new PointColours();
        check.due("degree(0)", x.degree(0), 0);
        check.due("cost(0, 5)", x.cost(0, 5), true);
        check.due("wish(0, 0)", x.wish(0, 0), true);
        check.due("joined(0, 0)", x.joined(0, 0), false);
        check.due("join(0, 0)", x.join(0, 0), false);
        for (int none : Check.noPoints(1)) {
            check.due("degree(" + none + ")", x.degree(none), -1);
            check.due("cost(" + none + ", 5)", x.cost(none, 5), false);
            check.due("wish(0, " + none + ")", x.wish(0, none), false);
            check.due("wish(" + none + ", 0)", x.wish(none, 0), false);
            check.due("join(0, " + none + ")", x.join(0, none), false);
            check.due("join(" + none + ", 0)", x.join(none, 0), false);
        }
    }

    /** "one colour": the only point gets it. */
    private static void oneColour() {
        PointColours x = new PointColours();
        check.due("give()", x.give(), 0);
        check.colours("of the one point", x, 0, -1);
        check.order("of the one point", x, 0, -1);
        check.due("strays()", x.strays(), 0);
    }

    /** "no colours given". */
    private static void noColoursGiven() {
        PointColours x = new PointColours();
        check.due("colour(0) of a new one", x.colour(0), -1);
        check.due("taken(0) of a new one", x.taken(0), -1);
        check.due("strays() of a new one", x.strays(), 0);
    }

    private static void isAsAfterTheLeastBegin() {
        PointColours x = new PointColours();
        PointColours y = Check.graph(1, 1);
        check.due("looks of a new one", Check.looks(x, 1), Check.looks(y, 1));
        check.due("give() of both", x.give(), y.give());
        check.due("looks of both", Check.looks(x, 1), Check.looks(y, 1));
    }

    private static void refusedCallsLeaveItNew() {
        PointColours x = new PointColours();
        int[] before = Check.looks(x, 3);
        check.due("begin(0, 1)", x.begin(0, 1), false);
        check.due("begin(2, 31)", x.begin(2, 31), false);
        check.due("join(0, 1)", x.join(0, 1), false);
        check.due("cost(1, 1)", x.cost(1, 1), false);
        check.due("wish(0, 1)", x.wish(0, 1), false);
        check.due("looks after refused calls", Check.looks(x, 3), before);
        check.due("give() after refused calls", x.give(), 0);
        check.colours("after refused calls", x, 0, -1);
    }

    private static void twoObjectsAreApart() {
        PointColours x = Check.graph(3, 2, Check.edge(0, 1));
        x.give();
        PointColours y = new PointColours();
        check.due("degree(1) of another object", y.degree(1), -1);
        check.due("colour(0) of another object", y.colour(0), -1);
        check.due("degree(1) of the first object", x.degree(1), 1);
        check.colours("of the first object", x, 1, 0, 0);
    }
}
