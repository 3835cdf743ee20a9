import java.util.Arrays;
import java.util.stream.IntStream;

/** What the tests share: it prints every answer that is not the one that is due, and ends the test. */
final class Check {
    private int wrong = 0;

    void due(String call, long got, long want) {
        if (got != want) {
            wrong++;
            System.out.println(call + " answered " + got + ", due is " + want);
        }
    }

    void due(String call, boolean got, boolean want) {
        due(call, got ? 1L : 0L, want ? 1L : 0L);
    }

    void due(String what, int[] got, int[] want) {
        if (!Arrays.equals(got, want)) {
            wrong++;
            System.out.println(what + " are " + Arrays.toString(got) + ", due are " + Arrays.toString(want));
        }
    }

    void colours(String when, PointColours x, int... want) {
        int[] got = new int[want.length];
        for (int a = 0; a < want.length; a++) {
            got[a] = x.colour(a);
        }
        due("colours " + when, got, want);
    }

    void order(String when, PointColours x, int... want) {
        int[] got = new int[want.length];
        for (int i = 0; i < want.length; i++) {
            got[i] = x.taken(i);
        }
        due("taken " + when, got, want);
    }

    void end() {
        System.out.println(wrong == 0 ? "all answers are as due" : wrong + " answers are not as due");
        if (wrong != 0) {
            System.exit(1);
        }
    }

    static PointColours graph(int n, int k, int[]... edges) {
        PointColours x = new PointColours();
        if (!x.begin(n, k)) {
            throw new IllegalStateException("begin(" + n + ", " + k + ") was refused");
        }
        for (int[] edge : edges) {
            if (!x.join(edge[0], edge[1])) {
                throw new IllegalStateException("join" + Arrays.toString(edge) + " was refused");
            }
        }
        return x;
    }

    static int[] edge(int a, int b) {
        return new int[] {a, b};
    }

    /** Every two of the first points joined. */
    static PointColours complete(int n, int k) {
        PointColours x = graph(n, k);
        for (int a = 0; a < n; a++) {
            for (int b = a + 1; b < n; b++) {
                x.join(a, b);
            }
        }
        return x;
    }

    /** Numbers that are no point of a graph with n points; some would hit a true place if their products wrapped. */
    static int[] noPoints(int n) {
        return IntStream.of(-1, -2, -64, -200, -(1 << 30), Integer.MIN_VALUE, Integer.MIN_VALUE + 1,
                        n, n + 1, 63, 64, 199, 200, 201, 256, 1 << 16, 1 << 30, (1 << 30) + 1,
                        Integer.MAX_VALUE - 1, Integer.MAX_VALUE)
                .filter(a -> a < 0 || a >= n)
                .toArray();
    }

    /** Every answer that a graph of n points gives without being changed: n * n + 3 * n + 7 calls. */
    static int[] looks(PointColours x, int n) {
        IntStream.Builder seen = IntStream.builder();
        for (int a = -1; a <= n; a++) {
            seen.add(x.colour(a)).add(x.taken(a)).add(x.degree(a));
        }
        for (int a = 0; a < n; a++) {
            for (int b = 0; b < n; b++) {
                seen.add(x.joined(a, b) ? 1 : 0);
            }
        }
        return seen.add(x.strays()).build().toArray();
    }
}
