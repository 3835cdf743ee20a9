import java.util.ArrayList;
import java.util.HashMap;
import java.util.List;
import java.util.Map;
import java.util.Random;
import java.util.Set;
import java.util.TreeSet;

/** All promises: long runs of calls, each answer held against a model that is written down plainly from the document. */
final class ModelTest {
    private static final Check check = new Check();

    private static final class Model {
        int n = 1;
        int k = 1;
        final Map<Integer, Set<Integer>> neighbours = new HashMap<>();
        final Map<Integer, Integer> costs = new HashMap<>();
        final Map<Integer, Integer> wishes = new HashMap<>();
        /** Null while no colours are given. */
        List<Integer> taken;
        Map<Integer, Integer> colours;

        void forget() {
            taken = null;
            colours = null;
        }

        boolean has(int a) {
            return 0 <= a && a < n;
        }

        Set<Integer> near(int a) {
            return neighbours.computeIfAbsent(a, any -> new TreeSet<>());
        }

        boolean begin(int newN, int newK) {
            if (newN < 1 || newN > 200 || newK < 1 || newK > 30) {
                return false;
            }
            n = newN;
            k = newK;
            neighbours.clear();
            costs.clear();
            wishes.clear();
            forget();
            return true;
        }

        boolean join(int a, int b) {
            if (!has(a) || !has(b) || a == b || near(a).contains(b)) {
                return false;
            }
            near(a).add(b);
            near(b).add(a);
            forget();
            return true;
        }

        boolean cost(int a, int c) {
            if (!has(a) || c < 0 || c > 1000000) {
                return false;
            }
            costs.put(a, c);
            forget();
            return true;
        }

        boolean wish(int a, int b) {
            if (!has(a) || !has(b)) {
                return false;
            }
            wishes.remove(a);
            if (a != b) {
                wishes.put(a, b);
            }
            forget();
            return true;
        }

        int give() {
            taken = new ArrayList<>();
            colours = new HashMap<>();
            Set<Integer> in = new TreeSet<>();
            for (int a = 0; a < n; a++) {
                in.add(a);
            }
            while (!in.isEmpty()) {
                int next = next(in);
                in.remove(next);
                taken.add(next);
            }
            for (int i = n - 1; i >= 0; i--) {
                putBack(taken.get(i));
            }
            return n - colours.size();
        }

        long stillIn(int a, Set<Integer> in) {
            return near(a).stream().filter(in::contains).count();
        }

        int next(Set<Integer> in) {
            for (int a : in) {
                if (stillIn(a, in) < k) {
                    return a;
                }
            }
            int best = -1;
            for (int a : in) {
                if (best < 0 || costs.getOrDefault(a, 0) * stillIn(best, in)
                        < costs.getOrDefault(best, 0) * stillIn(a, in)) {
                    best = a;
                }
            }
            return best;
        }

        void putBack(int a) {
            Set<Integer> used = new TreeSet<>();
            for (int b : near(a)) {
                if (colours.containsKey(b)) {
                    used.add(colours.get(b));
                }
            }
            Integer wished = wishes.containsKey(a) ? colours.get(wishes.get(a)) : null;
            if (wished != null && !used.contains(wished)) {
                colours.put(a, wished);
                return;
            }
            int least = 0;
            while (used.contains(least)) {
                least++;
            }
            if (least < k) {
                colours.put(a, least);
            }
        }

        int colour(int a) {
            return colours == null ? -1 : colours.getOrDefault(a, -1);
        }

        int taken(int i) {
            return taken == null || !has(i) ? -1 : taken.get(i);
        }

        boolean joined(int a, int b) {
            return has(a) && has(b) && near(a).contains(b);
        }

        int degree(int a) {
            return has(a) ? near(a).size() : -1;
        }
    }

    public static void main(String[] args) {
        Random random = new Random(20261116);
        for (int run = 0; run < 1500; run++) {
            mixedRun(run, random);
        }
        for (int run = 0; run < 300; run++) {
            largeGraph(run, random);
        }
        check.end();
    }

    /** Small graphs with few colours, so that points stay without, and calls in any order. */
    private static void mixedRun(int run, Random random) {
        PointColours x = new PointColours();
        Model model = new Model();
        int n = 1 + random.nextInt(14);
        int k = 1 + random.nextInt(4);
        int mostCost = random.nextBoolean() ? 4 : 1000000;
        check.due("run " + run + " begin", x.begin(n, k), model.begin(n, k));
        for (int call = 1; call < 512; call++) {
            int a = random.nextInt(n + 2) - 1;
            int b = random.nextInt(n + 2) - 1;
            anyCall("run " + run + " call " + call, x, model, random, new int[] {a, b, mostCost});
        }
    }

    private static void anyCall(String at, PointColours x, Model model, Random random, int[] numbers) {
        int a = numbers[0];
        int b = numbers[1];
        switch (random.nextInt(24)) {
            case 0, 1, 2, 3 -> check.due(at + " join", x.join(a, b), model.join(a, b));
            case 4, 5 -> {
                int c = random.nextInt(numbers[2] + 3) - 1;
                check.due(at + " cost", x.cost(a, c), model.cost(a, c));
            }
            case 6 -> check.due(at + " wish", x.wish(a, b), model.wish(a, b));
            case 7, 8, 9 -> check.due(at + " give", x.give(), model.give());
            case 10, 11, 12, 13, 14 -> check.due(at + " colour", x.colour(a), model.colour(a));
            case 15, 16, 17, 18 -> check.due(at + " taken", x.taken(a), model.taken(a));
            case 19 -> check.due(at + " joined", x.joined(a, b), model.joined(a, b));
            case 20, 21 -> check.due(at + " degree", x.degree(a), model.degree(a));
            case 22 -> check.due(at + " strays", x.strays(), 0);
            default -> {
                if (random.nextInt(16) == 0) {
                    check.due(at + " begin", x.begin(a, b), model.begin(a, b));
                }
            }
        }
    }

    /** Graphs of up to 200 points, looked at in as many places as 512 calls leave room for. */
    private static void largeGraph(int run, Random random) {
        PointColours x = new PointColours();
        Model model = new Model();
        int n = 20 + random.nextInt(181);
        int k = 1 + random.nextInt(run % 3 == 0 ? 30 : 4);
        int crowd = 20 + random.nextInt(n - 19);
        check.due("large begin", x.begin(n, k), model.begin(n, k));
        for (int call = 1; call <= 350; call++) {
            int a = n - 1 - random.nextInt(crowd);
            int b = n - 1 - random.nextInt(crowd);
            int c = random.nextInt(1000001);
            switch (random.nextInt(10)) {
                case 0 -> check.due("large cost", x.cost(a, c), model.cost(a, c));
                case 1 -> check.due("large wish", x.wish(a, b), model.wish(a, b));
                default -> check.due("large join", x.join(a, b), model.join(a, b));
            }
        }
        check.due("large give", x.give(), model.give());
        for (int look = 1; look <= 75; look++) {
            int a = random.nextInt(n + 2) - 1;
            check.due("large run " + run + " colour(" + a + ")", x.colour(a), model.colour(a));
            check.due("large run " + run + " taken(" + a + ")", x.taken(a), model.taken(a));
        }
        check.due("large strays", x.strays(), 0);
    }
}
