/** Promise 1: one point, one colour; no colours given. */
final class NewObjectTest {
    public static void main(String[] args) {
        Check check = new Check();
        PointColours x = new PointColours();
        check.due("colour(0) of a new one", x.colour(0), -1);
        check.due("taken(0) of a new one", x.taken(0), -1);
        check.due("strays() of a new one", x.strays(), 0);
        check.due("degree(0)", x.degree(0), 0);
        check.due("degree(1)", x.degree(1), -1);
        check.due("join(0, 1)", x.join(0, 1), false);
        check.due("cost(0, 5)", x.cost(0, 5), true);
        check.due("cost(1, 5)", x.cost(1, 5), false);
        check.due("wish(0, 0)", x.wish(0, 0), true);
        check.due("wish(0, 1)", x.wish(0, 1), false);
        check.due("give()", x.give(), 0);
        check.colours("of the one point", x, 0, -1);
        check.order("of the one point", x, 0, -1);
        twoObjectsAreApart(check);
        check.end();
    }

    private static void twoObjectsAreApart(Check check) {
        PointColours x = Check.graph(3, 2, Check.edge(0, 1));
        x.give();
        PointColours y = new PointColours();
        check.due("degree(1) of another object", y.degree(1), -1);
        check.due("colour(0) of another object", y.colour(0), -1);
        check.due("degree(1) of the first object", x.degree(1), 1);
        check.colours("of the first object", x, 1, 0, 0);
    }
}
