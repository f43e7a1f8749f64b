import java.util.Random;

/** Long runs of calls, the same in every session, on the class and on the model side by side. */
public final class ModelTest {
    private static final int RUNS = 80;
    /** What calls after the 512th answer is free; a turn makes at most eight. */
    private static final int LAST_START = 512 - 8;
    private static final int[] EDGES = {
        0, 1, -1, 2, Integer.MAX_VALUE, Integer.MIN_VALUE, Integer.MAX_VALUE - 1, Integer.MIN_VALUE + 1,
        Integer.MIN_VALUE + 2, 1 << 30, -(1 << 30), 46341, 65536
    };

    private final Check check;
    private final int run;
    private final Random random;
    private final int mostBodies;
    /** Small numbers, with many 0, make matrices with corners that are 0. */
    private final boolean small;
    private final LimbWorks x = new LimbWorks();
    private final Model y = new Model();
    private int there = 0;
    private int calls = 0;
    private int forwardDone = 0;
    private int forwardNot = 0;

    private ModelTest(Check check, int run) {
        this.check = check;
        this.run = run;
        random = new Random(run);
        mostBodies = run % 8;
        small = run % 3 == 0;
    }

    public static void main(String[] args) {
        Check check = new Check();
        int done = 0;
        int not = 0;
        for (int run = 0; run < RUNS; run++) {
            ModelTest test = new ModelTest(check, run);
            while (test.calls <= LAST_START) {
                test.callOne();
            }
            done += test.forwardDone;
            not += test.forwardNot;
        }
        check.due("forward was there often", done > 100, true);
        check.due("forward was not there often", not > 100, true);
        System.out.println("forward was there " + done + " times, not there " + not + " times");
        check.end();
    }

    private int number() {
        int kind = random.nextInt(10);
        if (small || kind < 4) {
            return random.nextInt(5) - 2;
        }
        return kind < 6 ? EDGES[random.nextInt(EDGES.length)] : random.nextInt();
    }

    private int someBody() {
        int kind = random.nextInt(40);
        if (kind == 0) {
            return EDGES[random.nextInt(EDGES.length)];
        }
        if (kind == 1) {
            return there + 1;
        }
        return kind == 2 || there == 0 ? 0 : 1 + random.nextInt(there);
    }

    private void due(String call, long got, long want) {
        check.due("run " + run + ": " + call, got, want);
    }

    private void due(String call, boolean got, boolean want) {
        check.due("run " + run + ": " + call, got, want);
    }

    private void callOne() {
        boolean early = calls < 20;
        int kind = early ? 0 : random.nextInt(20);
        calls++;
        if (kind < 10) {
            tellOne(kind);
        } else {
            askOne(kind);
        }
    }

    private void tellOne(int kind) {
        int k = someBody();
        int a = number();
        int b = number();
        int c = number();
        switch (kind) {
            case 0 -> hang(k, random.nextBoolean());
            case 1 -> due("place", x.place(k, a, b, c), y.place(k, a, b, c));
            case 2 -> due("tilt", x.tilt(k, a), y.tilt(k, a));
            case 3 -> due("mass", x.mass(k, a), y.mass(k, a));
            case 4 -> due("centre", x.centre(k, a, b, c), y.centre(k, a, b, c));
            case 5 -> due("inertia", x.inertia(k, a, b, c), y.inertia(k, a, b, c));
            case 6 -> due("products", x.products(k, a, b, c), y.products(k, a, b, c));
            case 7 -> due("joint", x.joint(k, a, b, c), y.joint(k, a, b, c));
            case 8 -> due("torque", x.torque(k, a), y.torque(k, a));
            default -> {
                x.gravity(a, b, c);
                y.gravity(a, b, c);
            }
        }
    }

    private void hang(int parent, boolean slides) {
        if (there < mostBodies || there == 7) {
            int got = x.body(parent, slides);
            due("body(" + parent + ")", got, y.body(parent, slides));
            there = Math.max(there, got);
        }
    }

    private void askOne(int kind) {
        int k = someBody();
        int i = someBody();
        switch (kind) {
            case 10, 18 -> due("needs(" + k + ")", x.needs(k), y.needs(k));
            case 11 -> due("matrix(" + k + ", " + i + ")", x.matrix(k, i), y.matrix(k, i));
            case 12 -> due("bias(" + k + ")", x.bias(k), y.bias(k));
            case 13 -> goForward();
            case 14 -> due("acceleration(" + k + ")", x.acceleration(k), y.acceleration(k));
            case 15 -> due("energy", x.energy(), y.energy());
            case 16 -> askWhere(k);
            case 17 -> askWeight();
            default -> {
                int h = number();
                x.step(h);
                y.step(h);
            }
        }
    }

    private void goForward() {
        int want = y.forward();
        due("forward", x.forward(), want);
        calls += there;
        for (int k = 1; k <= there; k++) {
            due("acceleration(" + k + ") after forward", x.acceleration(k), y.acceleration(k));
        }
        forwardDone += there > 0 ? want : 0;
        forwardNot += 1 - want;
    }

    private void askWhere(int k) {
        int what = random.nextInt(11) - 1;
        due("where(" + k + ", " + what + ")", x.where(k, what), y.where(k, what));
    }

    private void askWeight() {
        int axis = random.nextInt(6) - 1;
        due("weight(" + axis + ")", x.weight(axis), y.weight(axis));
    }
}
