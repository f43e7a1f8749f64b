/**
 * 'They are there if none of the determinants of the lower right corners of H (rows and columns k to n, for k from 1
 * to n) is 0', and promise 15: '1, and the accelerations of all joints become those; 0, and nothing is changed, when
 * they are not there.'
 */
public final class CornerTest {
    private static final int MOST = Calls.MOST_BODIES;
    private static final boolean TURNS = Calls.TURNS;
    private static final boolean SLIDES = Calls.SLIDES;
    private static final Check CHECK = new Check();

    public static void main(String[] args) {
        noBodies();
        for (int n = 1; n <= MOST; n++) {
            noMasses(n);
            there(n);
            upperLeftIsZero(n);
            for (int k = 1; k <= n; k++) {
                oneCornerIsZero(n, k);
            }
        }
        wholeIsZero();
        zeroModuloP();
        forwardAgain();
        CHECK.end();
    }

    private static void due(String what, long got, long want) {
        CHECK.due(what, got, want);
    }

    /** With no body there is no corner, so none that is 0. */
    private static void noBodies() {
        LimbWorks x = new LimbWorks();
        due("forward of nothing", x.forward(), 1);
        Answers.asItIs(x, 0).dueAs(CHECK, "forward of nothing", Answers.asItIs(new LimbWorks(), 0));
        due("forward of nothing, the first body", x.body(0, SLIDES), 1);
        due("forward of nothing, the first acceleration", x.acceleration(1), 0);
    }

    private static LimbWorks sliders(int n, boolean inChain) {
        LimbWorks x = new LimbWorks();
        for (int j = 1; j <= n; j++) {
            x.body(inChain ? j - 1 : 0, SLIDES);
            x.mass(j, 1);
            tellMotion(x, j);
        }
        return x;
    }

    /** Different numbers, so that it is seen if one of them changes. */
    private static void tellMotion(LimbWorks x, int j) {
        x.joint(j, 0, 30 + j, 10 + j);
        x.torque(j, 20 + j);
    }

    private static void noMasses(int n) {
        LimbWorks x = sliders(n, true);
        for (int j = 1; j <= n; j++) {
            x.mass(j, 0);
        }
        dueRefused("no masses, n = " + n, x, n);
    }

    /** 0, and nothing is changed: not the accelerations, and no other answer. */
    private static void dueRefused(String what, LimbWorks x, int n) {
        Answers before = Answers.asItIs(x, n);
        due(what, x.forward(), 0);
        for (int j = 1; j <= n; j++) {
            due(what + ", acceleration " + j, x.acceleration(j), 10 + j);
        }
        Answers.asItIs(x, n).dueAs(CHECK, what, before);
    }

    /** 1, and the accelerations become those with which all joints need their torques; no other answer changes. */
    private static void dueDone(String what, LimbWorks x, int n) {
        Answers before = Answers.withoutAccelerations(x, n);
        due(what, x.forward(), 1);
        for (int j = 1; j <= n; j++) {
            due(what + ", needs " + j, x.needs(j), 20 + j);
        }
        Answers.withoutAccelerations(x, n).dueAs(CHECK, what, before);
    }

    private static void there(int n) {
        LimbWorks x = sliders(n, false);
        dueDone("apart, n = " + n, x, n);
        for (int j = 1; j <= n; j++) {
            due("apart, n = " + n + ", acceleration " + j, x.acceleration(j), 20 + j);
        }
        LimbWorks y = sliders(n, true);
        dueDone("in a chain, n = " + n, y, n);
        due("in a chain, n = " + n + ", acceleration 1", y.acceleration(1), n == 1 ? 21 : Check.P - 1);
        LimbWorks z = Calls.make(n);
        for (int j = 1; j <= n; j++) {
            z.torque(j, 20 + j);
        }
        dueDone("any bodies, n = " + n, z, n);
    }

    /** The first mass takes all others away, so that entry (1, 1) is 0; the corners are products of the masses. */
    private static void upperLeftIsZero(int n) {
        if (n == 1) {
            return;
        }
        LimbWorks x = sliders(n, true);
        x.mass(1, 1 - n);
        due("entry (1, 1), n = " + n, x.matrix(1, 1), 0);
        dueDone("only the upper left is 0, n = " + n, x, n);
    }

    /**
     * Bodies apart from one another, of mass 1, but for the pair k - 1 and k, whose part of H has the rows
     * (5, 2), (2, 2 + zz): so if zz is - 2, the corner from k is 0 and no other one. If k is 1, its mass is 0.
     */
    private static LimbWorks cornerObject(int n, int k) {
        LimbWorks x = new LimbWorks();
        for (int j = 1; j <= n; j++) {
            boolean last = j == k && k > 1;
            x.body(last ? k - 1 : 0, last ? TURNS : SLIDES);
            x.mass(j, 1);
            tellMotion(x, j);
        }
        if (k == 1) {
            x.mass(1, 0);
            return x;
        }
        x.mass(k - 1, 3);
        x.mass(k, 2);
        x.tilt(k, 1);
        x.centre(k, 1, 0, 0);
        x.inertia(k, 0, 0, -2);
        return x;
    }

    private static void oneCornerIsZero(int n, int k) {
        String what = "n = " + n + ", the corner from " + k + " is 0";
        LimbWorks x = cornerObject(n, k);
        dueRefused(what, x, n);
        if (k == 1) {
            x.mass(1, 1);
        } else {
            due(what + ", (k - 1, k - 1)", x.matrix(k - 1, k - 1), 5);
            due(what + ", (k - 1, k)", x.matrix(k - 1, k), 2);
            due(what + ", (k, k - 1)", x.matrix(k, k - 1), 2);
            due(what + ", (k, k)", x.matrix(k, k), 0);
            x.inertia(k, 0, 0, -1);
        }
        dueMended("n = " + n + ", the corner from " + k + " is mended", x, n, k);
    }

    /** The pair's part of H has the rows (5, 2), (2, 1) now, and the torques are those told before the refusal. */
    private static void dueMended(String what, LimbWorks x, int n, int k) {
        due(what, x.forward(), 1);
        for (int j = 1; j <= n; j++) {
            long want = 20 + j;
            if (k > 1 && j == k - 1) {
                want = Check.number(19 + k - 2 * (20 + k));
            } else if (k > 1 && j == k) {
                want = 5 * (20 + k) - 2 * (19 + k);
            }
            due(what + ", acceleration " + j, x.acceleration(j), want);
        }
    }

    /** H has the rows (m + k, m), (m, i + m). */
    private static LimbWorks pair(int m, int k, int i) {
        LimbWorks x = cornerObject(2, 2);
        x.mass(1, k);
        x.mass(2, m);
        x.inertia(2, 0, 0, i);
        return x;
    }

    private static void wholeIsZero() {
        dueRefused("(2, 2), (2, 2)", pair(2, 0, 0), 2);
        dueRefused("(4, 2), (2, 1)", pair(2, 2, -1), 2);
        dueDone("(4, 2), (2, 2)", pair(2, 2, 0), 2);
        LimbWorks x = pair(2, -2, 3);
        due("(0, 2), (2, 5)", x.forward(), 1);
        due("(0, 2), (2, 5), acceleration 1", x.acceleration(1), Check.part(22 * 2 - 5 * 21, 4));
        due("(0, 2), (2, 5), acceleration 2", x.acceleration(2), Check.part(21, 2));
    }

    /** Determinants that are not 0 in the integers, but just P, - P or a multiple of it. */
    private static void zeroModuloP() {
        LimbWorks x = sliders(1, true);
        x.mass(1, Calls.MAX);
        dueRefused("mass P", x, 1);
        x.mass(1, Calls.MIN + 1);
        dueRefused("mass - P", x, 1);
        x.mass(1, Calls.MIN);
        due("mass - P - 1", x.forward(), 1);
        due("mass - P - 1, acceleration", x.acceleration(1), Check.P - 21);
        dueRefused("2 * 2^30 - 1 is P", pair(1, 1, (1 << 30) - 1), 2);
        dueDone("2 * (2^30 + 1) - 1", pair(1, 1, 1 << 30), 2);
        LimbWorks y = sliders(2, true);
        y.mass(1, 1);
        y.mass(2, -1);
        dueDone("masses that add up to P", y, 2);
    }

    /** A refusal leaves nothing behind for the next forward, nor does one that was done. */
    private static void forwardAgain() {
        LimbWorks x = cornerObject(MOST, 4);
        due("again, refused", x.forward(), 0);
        due("again, refused twice", x.forward(), 0);
        x.inertia(4, 0, 0, -1);
        dueMended("again, mended", x, MOST, 4);
        dueMended("again, done twice", x, MOST, 4);
        x.inertia(4, 0, 0, -2);
        due("again, refused later", x.forward(), 0);
        x.inertia(4, 0, 0, -1);
        dueMended("again, the accelerations stayed", x, MOST, 4);
        x.mass(1, 0);
        due("again, the last corner", x.forward(), 0);
        due("again, as it was", x.acceleration(4), 5 * 24 - 2 * 23);
    }
}
