import java.math.BigInteger;

/**
 * The document's section 'Terms' word by word, with BigInteger, whole matrices and determinants by expansion.
 * Slow, and written apart from the class: the class is held against it.
 */
final class Model {
    private static final BigInteger P = BigInteger.valueOf(2147483647L);
    private static final BigInteger ZERO = BigInteger.ZERO;
    private static final BigInteger ONE = BigInteger.ONE;
    private static final BigInteger TWO = BigInteger.TWO;

    private int n = 0;
    private final int[] parent = new int[8];
    private final boolean[] slides = new boolean[8];
    private final BigInteger[][] d = rows();
    private final BigInteger[] t = zeros(8);
    private final BigInteger[] m = zeros(8);
    private final BigInteger[][] c = rows();
    private final BigInteger[][] diagonal = rows();
    private final BigInteger[][] others = rows();
    private final BigInteger[] q = zeros(8);
    private final BigInteger[] v = zeros(8);
    private final BigInteger[] a = zeros(8);
    private final BigInteger[] torque = zeros(8);
    private BigInteger[] g = zeros(3);

    private static BigInteger[] zeros(int length) {
        BigInteger[] row = new BigInteger[length];
        java.util.Arrays.fill(row, ZERO);
        return row;
    }

    private static BigInteger[][] rows() {
        BigInteger[][] all = new BigInteger[8][];
        for (int k = 0; k < 8; k++) {
            all[k] = zeros(3);
        }
        return all;
    }

    private static BigInteger num(int told) {
        return BigInteger.valueOf(told).mod(P);
    }

    private static BigInteger[] vec(int x, int y, int z) {
        return new BigInteger[] {num(x), num(y), num(z)};
    }

    private static BigInteger[] add(BigInteger[]... all) {
        BigInteger[] sum = zeros(3);
        for (BigInteger[] one : all) {
            for (int k = 0; k < 3; k++) {
                sum[k] = sum[k].add(one[k]).mod(P);
            }
        }
        return sum;
    }

    private static BigInteger[] mul(BigInteger factor, BigInteger[] x) {
        BigInteger[] result = zeros(3);
        for (int k = 0; k < 3; k++) {
            result[k] = factor.multiply(x[k]).mod(P);
        }
        return result;
    }

    private static BigInteger[] cross(BigInteger[] x, BigInteger[] y) {
        BigInteger[] result = zeros(3);
        for (int k = 0; k < 3; k++) {
            int k1 = (k + 1) % 3;
            int k2 = (k + 2) % 3;
            result[k] = x[k1].multiply(y[k2]).subtract(x[k2].multiply(y[k1])).mod(P);
        }
        return result;
    }

    private static BigInteger dot(BigInteger[] x, BigInteger[] y) {
        return x[0].multiply(y[0]).add(x[1].multiply(y[1])).add(x[2].multiply(y[2])).mod(P);
    }

    /** Matrices of three rows. */
    private static BigInteger[][] mul(BigInteger[][] x, BigInteger[][] y) {
        BigInteger[][] result = {zeros(3), zeros(3), zeros(3)};
        for (int r = 0; r < 3; r++) {
            for (int s = 0; s < 3; s++) {
                for (int k = 0; k < 3; k++) {
                    result[r][s] = result[r][s].add(x[r][k].multiply(y[k][s])).mod(P);
                }
            }
        }
        return result;
    }

    private static BigInteger[] mul(BigInteger[][] x, BigInteger[] y) {
        return new BigInteger[] {dot(x[0], y), dot(x[1], y), dot(x[2], y)};
    }

    private static BigInteger[][] flip(BigInteger[][] x) {
        BigInteger[][] result = {zeros(3), zeros(3), zeros(3)};
        for (int r = 0; r < 3; r++) {
            for (int s = 0; s < 3; s++) {
                result[r][s] = x[s][r];
            }
        }
        return result;
    }

    private static BigInteger cosine(BigInteger x) {
        BigInteger square = x.multiply(x);
        return ONE.subtract(square).multiply(ONE.add(square).modInverse(P)).mod(P);
    }

    private static BigInteger sine(BigInteger x) {
        return TWO.multiply(x).multiply(ONE.add(x.multiply(x)).modInverse(P)).mod(P);
    }

    /** Everything in the ground's frame, for given speeds, accelerations and gravity. */
    private final class State {
        final BigInteger[][][] R = new BigInteger[8][][];
        final BigInteger[][] o = rows();
        final BigInteger[][] u = rows();
        final BigInteger[][] w = rows();
        final BigInteger[][] b = rows();
        final BigInteger[][] A = rows();
        final BigInteger[][] e = rows();
        final BigInteger[][] F = rows();
        final BigInteger[][] N = rows();

        State(BigInteger[] speed, BigInteger[] acceleration, BigInteger[] pull) {
            R[0] = new BigInteger[][] {{ONE, ZERO, ZERO}, {ZERO, ONE, ZERO}, {ZERO, ZERO, ONE}};
            A[0] = mul(P.subtract(ONE), pull);
            for (int i = 1; i <= n; i++) {
                stand(i);
                move(i, speed[i], acceleration[i]);
                load(i);
            }
        }

        private void stand(int i) {
            int p = parent[i];
            BigInteger ct = cosine(t[i]);
            BigInteger st = sine(t[i]);
            BigInteger cq = cosine(q[i]);
            BigInteger sq = sine(q[i]);
            BigInteger[][] T = {{ONE, ZERO, ZERO}, {ZERO, ct, st.negate()}, {ZERO, st, ct}};
            BigInteger[][] Z = {{cq, sq.negate(), ZERO}, {sq, cq, ZERO}, {ZERO, ZERO, ONE}};
            BigInteger[][] tilted = mul(R[p], T);
            u[i] = flip(tilted)[2];
            R[i] = slides[i] ? tilted : mul(tilted, Z);
            o[i] = add(o[p], mul(R[p], d[i]));
            if (slides[i]) {
                o[i] = add(o[i], mul(q[i], u[i]));
            }
            e[i] = mul(R[i], c[i]);
        }

        private void move(int i, BigInteger speed, BigInteger acceleration) {
            int p = parent[i];
            BigInteger[] vu = mul(speed, u[i]);
            BigInteger[] au = mul(acceleration, u[i]);
            BigInteger[] s = add(o[i], mul(P.subtract(ONE), o[p]));
            A[i] = add(A[p], cross(b[p], s), cross(w[p], cross(w[p], s)));
            if (slides[i]) {
                A[i] = add(A[i], mul(TWO, cross(w[p], vu)), au);
                w[i] = w[p];
                b[i] = b[p];
            } else {
                w[i] = add(w[p], vu);
                b[i] = add(b[p], au, cross(w[p], vu));
            }
        }

        private void load(int i) {
            BigInteger[] x = diagonal[i];
            BigInteger[] y = others[i];
            BigInteger[][] own = {{x[0], y[0], y[1]}, {y[0], x[1], y[2]}, {y[1], y[2], x[2]}};
            BigInteger[][] J = mul(mul(R[i], own), flip(R[i]));
            BigInteger[] G = add(A[i], cross(b[i], e[i]), cross(w[i], cross(w[i], e[i])));
            F[i] = mul(m[i], G);
            N[i] = add(mul(J, b[i]), cross(w[i], mul(J, w[i])));
        }

        BigInteger needed(int j) {
            BigInteger sum = ZERO;
            for (int i = 1; i <= n; i++) {
                if (isOrHangsOn(i, j)) {
                    BigInteger[] arm = add(o[i], e[i], mul(P.subtract(ONE), o[j]));
                    BigInteger[] whole = slides[j] ? F[i] : add(N[i], cross(arm, F[i]));
                    sum = sum.add(dot(u[j], whole)).mod(P);
                }
            }
            return sum;
        }
    }

    private boolean isOrHangsOn(int i, int j) {
        return i == j || i != 0 && isOrHangsOn(parent[i], j);
    }

    private State asItIs() {
        return new State(v, a, g);
    }

    private State forEntry(int i) {
        BigInteger[] unit = zeros(8);
        unit[i] = ONE;
        return new State(zeros(8), unit, zeros(3));
    }

    private BigInteger[][] allEntries() {
        BigInteger[][] h = new BigInteger[n][n];
        for (int i = 1; i <= n; i++) {
            State state = forEntry(i);
            for (int j = 1; j <= n; j++) {
                h[j - 1][i - 1] = state.needed(j);
            }
        }
        return h;
    }

    /** By expansion along the first row. */
    private static BigInteger determinant(BigInteger[][] x) {
        if (x.length == 0) {
            return ONE;
        }
        BigInteger sum = ZERO;
        for (int k = 0; k < x.length; k++) {
            if (x[0][k].signum() != 0) {
                BigInteger term = x[0][k].multiply(determinant(without(x, k)));
                sum = k % 2 == 0 ? sum.add(term) : sum.subtract(term);
            }
        }
        return sum.mod(P);
    }

    private static BigInteger[][] without(BigInteger[][] x, int column) {
        BigInteger[][] result = new BigInteger[x.length - 1][x.length - 1];
        for (int r = 1; r < x.length; r++) {
            for (int s = 0; s < x.length - 1; s++) {
                result[r - 1][s] = x[r][s < column ? s : s + 1];
            }
        }
        return result;
    }

    private static BigInteger[][] corner(BigInteger[][] x, int k) {
        BigInteger[][] result = new BigInteger[x.length - k][x.length - k];
        for (int r = k; r < x.length; r++) {
            for (int s = k; s < x.length; s++) {
                result[r - k][s - k] = x[r][s];
            }
        }
        return result;
    }

    private boolean there(int body) {
        return 1 <= body && body <= n;
    }

    int body(int on, boolean slide) {
        if (on < 0 || on > n || n == 7) {
            return -1;
        }
        n++;
        parent[n] = on;
        slides[n] = slide;
        return n;
    }

    private static boolean put(boolean allowed, BigInteger[][] rows, int body, BigInteger[] row) {
        if (allowed) {
            rows[body] = row;
        }
        return allowed;
    }

    private static boolean put(boolean allowed, BigInteger[] row, int body, int told) {
        if (allowed) {
            row[body] = num(told);
        }
        return allowed;
    }

    boolean place(int body, int x, int y, int z) {
        return put(there(body), d, body, vec(x, y, z));
    }

    boolean tilt(int body, int told) {
        return put(there(body), t, body, told);
    }

    boolean mass(int body, int told) {
        return put(there(body), m, body, told);
    }

    boolean centre(int body, int x, int y, int z) {
        return put(there(body), c, body, vec(x, y, z));
    }

    boolean inertia(int body, int xx, int yy, int zz) {
        return put(there(body), diagonal, body, vec(xx, yy, zz));
    }

    boolean products(int body, int xy, int xz, int yz) {
        return put(there(body), others, body, vec(xy, xz, yz));
    }

    boolean joint(int body, int toldQ, int toldV, int toldA) {
        return put(there(body), q, body, toldQ) && put(true, v, body, toldV) && put(true, a, body, toldA);
    }

    boolean torque(int body, int told) {
        return put(there(body), torque, body, told);
    }

    void gravity(int x, int y, int z) {
        g = vec(x, y, z);
    }

    int needs(int body) {
        return there(body) ? asItIs().needed(body).intValueExact() : -1;
    }

    int matrix(int j, int i) {
        return there(j) && there(i) ? forEntry(i).needed(j).intValueExact() : -1;
    }

    int bias(int body) {
        return there(body) ? new State(v, zeros(8), g).needed(body).intValueExact() : -1;
    }

    /** By Cramer's rule. */
    int forward() {
        BigInteger[][] h = allEntries();
        for (int k = 0; k < n; k++) {
            if (determinant(corner(h, k)).signum() == 0) {
                return 0;
            }
        }
        BigInteger below = determinant(h).modInverse(P);
        State still = new State(v, zeros(8), g);
        for (int i = 1; i <= n; i++) {
            BigInteger[][] changed = new BigInteger[n][];
            for (int j = 1; j <= n; j++) {
                changed[j - 1] = h[j - 1].clone();
                changed[j - 1][i - 1] = torque[j].subtract(still.needed(j)).mod(P);
            }
            a[i] = determinant(changed).multiply(below).mod(P);
        }
        return 1;
    }

    int acceleration(int body) {
        return there(body) ? a[body].intValueExact() : -1;
    }

    int energy() {
        BigInteger[][] h = allEntries();
        BigInteger sum = ZERO;
        for (int j = 1; j <= n; j++) {
            for (int i = 1; i <= n; i++) {
                sum = sum.add(v[j].multiply(v[i]).multiply(h[j - 1][i - 1])).mod(P);
            }
        }
        return sum.intValueExact();
    }

    int where(int body, int what) {
        if (!there(body) || what < 0 || what > 8) {
            return -1;
        }
        State state = asItIs();
        BigInteger[] centre = add(state.o[body], state.e[body]);
        BigInteger[] told = what < 3 ? state.o[body] : what < 6 ? centre : state.u[body];
        return told[what % 3].intValueExact();
    }

    int weight(int axis) {
        if (axis < 0 || axis > 3) {
            return -1;
        }
        State state = asItIs();
        BigInteger sum = ZERO;
        for (int i = 1; i <= n; i++) {
            BigInteger factor = axis == 3 ? ONE : add(state.o[i], state.e[i])[axis];
            sum = sum.add(m[i].multiply(factor)).mod(P);
        }
        return sum.intValueExact();
    }

    void step(int h) {
        for (int i = 1; i <= n; i++) {
            v[i] = v[i].add(a[i].multiply(num(h))).mod(P);
        }
        for (int i = 1; i <= n; i++) {
            q[i] = q[i].add(v[i].multiply(num(h))).mod(P);
        }
    }
}
