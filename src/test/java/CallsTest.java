/** "An object is used for at most 512 calls after it has been made; what later calls answer is free." */
final class CallsTest {
    private static final int MOST_CALLS = 512;
    private static final Check check = new Check();

    public static void main(String[] args) {
        lastCallGives();
        lastCallLooks();
        lastCallChanges();
        everyCallGives();
        everyCallIsRefused();
        everyCallBegins();
        laterCallsEndWithoutThrowing();
        check.end();
    }

    /** A ring of 200 points that has seen so many calls: begin, the joins, and costs for the rest. */
    private static PointColours ringAfter(int calls) {
        PointColours x = new PointColours();
        x.begin(200, 2);
        for (int a = 0; a < 200; a++) {
            x.join(a, (a + 1) % 200);
        }
        for (int call = 201; call < calls; call++) {
            x.cost(call % 200, 7);
        }
        return x;
    }

    private static void lastCallGives() {
        PointColours x = ringAfter(MOST_CALLS - 1);
        check.due("give() as the last call", x.give(), 0);
    }

    private static void lastCallLooks() {
        PointColours x = ringAfter(MOST_CALLS - 4);
        x.give();
        check.due("taken(199) before the last calls", x.taken(199), 199);
        check.due("strays() before the last call", x.strays(), 0);
        check.due("colour(0) as the last call", x.colour(0), 1);
        x = ringAfter(MOST_CALLS - 1);
        check.due("degree(199) as the last call", x.degree(199), 2);
        x = ringAfter(MOST_CALLS - 1);
        check.due("joined(0, 199) as the last call", x.joined(0, 199), true);
    }

    private static void lastCallChanges() {
        check.due("begin(1, 1) as the last call", ringAfter(MOST_CALLS - 1).begin(1, 1), true);
        check.due("join(0, 100) as the last call", ringAfter(MOST_CALLS - 1).join(0, 100), true);
        check.due("join(199, 0) as the last call", ringAfter(MOST_CALLS - 1).join(199, 0), false);
        check.due("cost(0, 1000000) as the last call", ringAfter(MOST_CALLS - 1).cost(0, 1000000), true);
        check.due("wish(0, 100) as the last call", ringAfter(MOST_CALLS - 1).wish(0, 100), true);
    }

    private static void everyCallGives() {
        PointColours x = Check.complete(3, 2);
        for (int call = 5; call < MOST_CALLS; call++) {
            check.due("give() as call " + call, x.give(), 1);
        }
        check.due("colour(0) after many givings", x.colour(0), -1);
    }

    private static void everyCallIsRefused() {
        PointColours x = new PointColours();
        for (int call = 1; call < MOST_CALLS; call++) {
            check.due("join(0, " + call + ") as call " + call, x.join(0, call), false);
        }
        check.due("degree(0) after many refusals", x.degree(0), 0);
    }

    private static void everyCallBegins() {
        PointColours x = new PointColours();
        for (int call = 1; call < MOST_CALLS; call++) {
            int n = call % 200 + 1;
            check.due("begin(" + n + ", 1) as call " + call, x.begin(n, 1), true);
        }
        check.due("degree(111) after many beginnings", x.degree(111), 0);
    }

    /** Answers are free then, but no call may throw or fail to end: here all pairs of 200 points are joined. */
    private static void laterCallsEndWithoutThrowing() {
        PointColours x = Check.complete(200, 30);
        for (int time = 1; time <= 20; time++) {
            x.wish(time, 199);
            x.give();
            x.strays();
        }
        x.begin(200, 1);
        x.give();
    }
}
