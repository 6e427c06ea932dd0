/** The numbers c and s, and the samples and estimates made of them, as the document writes them. */
final class Wave {
    private static final int[] C = {
        4096, 3956, 3547, 2896, 2048, 1060, 0, -1060, -2048, -2896, -3547, -3956,
        -4096, -3956, -3547, -2896, -2048, -1060, 0, 1060, 2048, 2896, 3547, 3956
    };

    private Wave() {
    }

    static int c(int t) {
        return C[t % 24];
    }

    static int s(int t) {
        return C[(t % 24 + 18) % 24];
    }

    /** The sample of the phasor (a, b) at the time t. */
    static long sample(int a, int b, int t) {
        return ((long) a * c(t) - (long) b * s(t)) / 4096;
    }

    /** What measure() tells of the estimates (a, b), if x(from), x(from + 1) and so on are these and all others are 0. */
    static long[] estimates(int from, long... x) {
        long a = 0;
        long b = 0;
        for (int i = 0; i < x.length; i++) {
            a += x[i] * c(from + i);
            b += -x[i] * s(from + i);
        }
        return new long[] {a / 49152, b / 49152};
    }

    /** Lets a cycle pass with phasors whose estimates are just these. */
    static void stand(ZoneRelay relay, int va, int vb, int ia, int ib) {
        int[] v = phasorOf(va, vb);
        int[] i = phasorOf(ia, ib);
        relay.apply(v[0], v[1], i[0], i[1]);
        relay.pass(24);
    }

    /** A phasor whose estimate over a whole cycle is (a, b): what is truncated makes it a little greater than that. */
    private static int[] phasorOf(int a, int b) {
        for (int more = 0; more < 49; more++) {
            int tryA = a + (a < 0 ? -1 : 1) * (more / 7);
            int tryB = b + (b < 0 ? -1 : 1) * (more % 7);
            long[] cycle = new long[24];
            for (int t = 0; t < 24; t++) {
                cycle[t] = sample(tryA, tryB, t);
            }
            long[] estimate = estimates(0, cycle);
            if (estimate[0] == a && estimate[1] == b) {
                return new int[] {tryA, tryB};
            }
        }
        throw new IllegalArgumentException("no phasor has the estimate (" + a + ", " + b + ")");
    }
}
