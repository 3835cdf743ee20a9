import java.util.Arrays;

/**
 * A refused call changes nothing: of two objects made alike one gets a call that is to be refused, and both must answer
 * alike from then on. Costs, wishes and the number of colours show only in a giving, so one follows.
 */
final class RefusedTest {
    private static final int POINTS = 6;
    private static final int[] FAR = {-1, -2, 201, 1000001, 1 << 30, Integer.MIN_VALUE, Integer.MAX_VALUE};
    private static final Check check = new Check();

    private enum State { NEW, BEGUN, GIVEN, DROPPED, LARGEST }

    public static void main(String[] args) {
        for (State state : State.values()) {
            for (int bad : FAR) {
                refused(state, "begin", bad, 2);
                refused(state, "begin", 3, bad);
                refused(state, "join", 0, bad);
                refused(state, "join", bad, 0);
                refused(state, "join", bad, bad);
                refused(state, "cost", bad, 1);
                refused(state, "cost", 0, bad == 201 ? 1000002 : bad);
                refused(state, "wish", 0, bad);
                refused(state, "wish", bad, 0);
                refused(state, "wish", bad, bad);
            }
            refused(state, "begin", 0, 1);
            refused(state, "begin", 200, 0);
            refused(state, "begin", 200, 31);
            refused(state, "join", 0, 0);
            refused(state, "join", 0, pointsOf(state));
            refused(state, "cost", pointsOf(state), 1);
            refused(state, "wish", 0, pointsOf(state));
        }
        for (State state : new State[] {State.BEGUN, State.GIVEN, State.DROPPED, State.LARGEST}) {
            refused(state, "join", 0, 1);
            refused(state, "join", 1, 0);
        }
        check.end();
    }

    private static int pointsOf(State state) {
        return state == State.NEW ? 1 : state == State.LARGEST ? 200 : POINTS;
    }

    private static void refused(State state, String name, int a, int b) {
        String call = name + "(" + a + ", " + b + ") when " + state;
        PointColours x = made(state);
        PointColours y = made(state);
        check.due(call, call(x, name, a, b), false);
        check.due("looks after " + call, looks(x), looks(y));
        check.due("give() after " + call, x.give(), y.give());
        check.due("looks at the giving after " + call, looks(x), looks(y));
    }

    private static boolean call(PointColours x, String name, int a, int b) {
        return switch (name) {
            case "begin" -> x.begin(a, b);
            case "join" -> x.join(a, b);
            case "cost" -> x.cost(a, b);
            default -> x.wish(a, b);
        };
    }

    /** A triangle that costs and two colours leave with a gap, and wishes of the other points. */
    private static PointColours made(State state) {
        PointColours x = new PointColours();
        if (state == State.NEW) {
            return x;
        }
        x.begin(pointsOf(state), 2);
        x.join(0, 1);
        x.join(0, 2);
        x.join(1, 2);
        x.cost(0, 5);
        x.cost(1, 4);
        x.cost(2, 6);
        x.wish(3, 0);
        x.wish(4, 2);
        x.wish(0, 5);
        if (state != State.BEGUN) {
            x.give();
        }
        if (state == State.DROPPED) {
            x.join(3, 5);
        }
        return x;
    }

    /** The least points whole and the largest point: the same for every state, so that points too many would show. */
    private static int[] looks(PointColours x) {
        int[] low = Check.looks(x, POINTS);
        int[] high = {x.colour(199), x.taken(199), x.degree(199), x.joined(0, 199) ? 1 : 0};
        int[] all = Arrays.copyOf(low, low.length + high.length);
        System.arraycopy(high, 0, all, low.length, high.length);
        return all;
    }
}
