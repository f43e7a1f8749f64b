import java.math.BigInteger;

/** The edges of promises 1, 2, 18, 19 and 20, all of seven bodies, and runs of 512 calls. */
public final class LimitTest {
    private static final int NONE = Calls.NONE;
    private static final int MIN = Calls.MIN;
    private static final int MAX = Calls.MAX;
    private static final boolean TURNS = Calls.TURNS;
    private static final boolean SLIDES = Calls.SLIDES;
    private static final int MOST = Calls.MOST_BODIES;
    private static final int MOST_CALLS = 512;
    private static final Check CHECK = new Check();

    public static void main(String[] args) {
        groundAlone();
        gravityIsZero();
        allNumbersAreZero();
        numbersAndParents();
        objectsApart();
        everyWhat();
        everyAxis();
        stepOfNothing();
        speedThenPosition();
        stepWrapsAround();
        stepOfEachJoint();
        sevenInAChain();
        sevenInBranches();
        fiveHundredTwelveSteps();
        fiveHundredTwelveBodies();
        fiveHundredTwelveForwards();
        fiveHundredTwelveCalls();
        CHECK.end();
    }

    private static void due(String what, long got, long want) {
        CHECK.due(what, got, want);
    }

    /** Promise 1: 'The ground alone'. */
    private static void groundAlone() {
        LimbWorks x = new LimbWorks();
        for (int body = -1; body <= MOST + 1; body++) {
            due("new, needs " + body, x.needs(body), NONE);
            due("new, bias " + body, x.bias(body), NONE);
            due("new, acceleration " + body, x.acceleration(body), NONE);
            due("new, matrix " + body, x.matrix(body, body), NONE);
            due("new, where " + body, x.where(body, 0), NONE);
            CHECK.due("new, mass " + body, x.mass(body, 1), false);
        }
        due("new, energy", x.energy(), 0);
        for (int axis = 0; axis <= 3; axis++) {
            due("new, weight " + axis, x.weight(axis), 0);
        }
        due("new, on a body that is not there", x.body(1, TURNS), NONE);
        due("new, on the ground", x.body(0, TURNS), 1);
    }

    /** Promise 1: 'g is 0'. Of bodies that feel each of its parts. */
    private static void gravityIsZero() {
        LimbWorks x = new LimbWorks();
        for (int body = 1; body <= 3; body++) {
            x.body(0, body == 3);
            x.mass(body, 1);
        }
        x.centre(1, 0, 1, 0);
        x.centre(2, 1, 0, 0);
        for (int body = 1; body <= 3; body++) {
            due("g is 0, bias " + body, x.bias(body), 0);
            due("g is 0, needs " + body, x.needs(body), 0);
        }
        x.gravity(1, 1, 1);
        long[] want = {1, -1, -1};
        for (int body = 1; body <= 3; body++) {
            due("g is told, bias " + body, x.bias(body), Check.number(want[body - 1]));
        }
    }

    /** Promise 2: 'all its numbers are 0', shown with the others told and each of them told as 0 or not at all. */
    private static void allNumbersAreZero() {
        for (int kind = 0; kind < Calls.TELLS.length; kind++) {
            LimbWorks x = Calls.make(MOST - 1);
            LimbWorks y = Calls.make(MOST - 1);
            Calls.hang(x, MOST);
            Calls.hang(y, MOST);
            Calls.tellAllBut(x, MOST, kind);
            Calls.tellAllBut(y, MOST, kind);
            Calls.tell(y, kind, MOST, new int[] {0, 0, 0});
            Answers got = Answers.andForward(x, MOST);
            got.dueAs(CHECK, Calls.TELLS[kind] + " of a new body is 0", Answers.andForward(y, MOST));
        }
        for (int moved = 0; moved <= 1; moved++) {
            LimbWorks x = Calls.make(MOST - 1);
            if (moved == 1) {
                x.forward();
                x.step(5);
                x.energy();
            }
            Calls.hang(x, MOST);
            dueZeroBody("new body", x, MOST);
        }
    }

    /** A body without mass and inertia, on body 6, which slides: it stands where that one does. */
    private static void dueZeroBody(String what, LimbWorks x, int body) {
        due(what + ", acceleration", x.acceleration(body), 0);
        due(what + ", needs", x.needs(body), 0);
        due(what + ", bias", x.bias(body), 0);
        for (int i = 1; i <= body; i++) {
            due(what + ", matrix " + i, x.matrix(body, i), 0);
            due(what + ", matrix of " + i, x.matrix(i, body), 0);
        }
        for (int k = 0; k < 3; k++) {
            due(what + ", origin " + k, x.where(body, k), x.where(body - 1, k));
            due(what + ", centre " + k, x.where(body, 3 + k), x.where(body - 1, k));
            due(what + ", axis " + k, x.where(body, 6 + k), x.where(body - 1, 6 + k));
        }
    }

    /** Promise 2: 'Its number', and any body of a lower number, or the ground, as parent. */
    private static void numbersAndParents() {
        for (int parent = 0; parent < MOST; parent++) {
            LimbWorks x = new LimbWorks();
            for (int body = 1; body <= MOST; body++) {
                int on = Math.min(parent, body - 1);
                due("on its own number", x.body(body, SLIDES), NONE);
                due("body " + body + " on " + on, x.body(on, SLIDES), body);
                x.place(body, 1 << 2 * body, 0, 0);
                long above = on == 0 ? 0 : x.where(on, 0);
                due("body " + body + " hangs on " + on, x.where(body, 0), above + (1 << 2 * body));
            }
        }
    }

    /** 'All memory is the class's own': two objects used in turns are as each would be alone. */
    private static void objectsApart() {
        LimbWorks x = new LimbWorks();
        LimbWorks y = new LimbWorks();
        x.gravity(17, -29, 31);
        for (int body = 1; body <= MOST; body++) {
            Calls.hang(x, body);
            y.body(body - 1, SLIDES);
            Calls.tellAllBut(x, body, Calls.NO_TELL);
            y.mass(body, body);
        }
        y.forward();
        y.step(3);
        Answers.andForward(x, MOST).dueAs(CHECK, "beside another", Answers.andForward(Calls.make(MOST), MOST));
        due("beside another, masses", y.weight(3), 28);
        due("beside another, needs", y.needs(1), 0);
        due("a later one", new LimbWorks().body(1, TURNS), NONE);
    }

    /** Promise 18: each what from 0 to 8. */
    private static void everyWhat() {
        LimbWorks x = new LimbWorks();
        x.body(0, SLIDES);
        x.tilt(1, 1);
        x.place(1, 10, 20, 30);
        x.centre(1, 1, 2, 3);
        x.joint(1, 5, 8, 9);
        long[] want = {10, 15, 30, 11, 12, 32, 0, -1, 0};
        for (int what = 0; what <= 8; what++) {
            due("where(1, " + what + ")", x.where(1, what), Check.number(want[what]));
        }
        due("where(1, -1)", x.where(1, -1), NONE);
        due("where(1, 9)", x.where(1, 9), NONE);
    }

    /** Promise 19: each axis from 0 to 3, of no body, of one, and of seven. */
    private static void everyAxis() {
        LimbWorks x = new LimbWorks();
        long[] sums = new long[4];
        for (int body = 0; body <= MOST; body++) {
            if (body > 0) {
                int m = body == 4 ? -5 : 1 << body;
                x.body(0, TURNS);
                x.mass(body, m);
                x.place(body, body, 0, 100);
                x.centre(body, 0, 3 * body, 1);
                long[] more = {(long) m * body, 3L * m * body, 101L * m, m};
                for (int axis = 0; axis <= 3; axis++) {
                    sums[axis] += more[axis];
                }
            }
            for (int axis = 0; axis <= 3; axis++) {
                due("weight(" + axis + ") of " + body, x.weight(axis), Check.number(sums[axis]));
            }
            due("weight(-1) of " + body, x.weight(-1), NONE);
            due("weight(4) of " + body, x.weight(4), NONE);
        }
    }

    private static void stepOfNothing() {
        LimbWorks x = new LimbWorks();
        int[] times = {0, 1, -1, MIN, MAX};
        for (int h : times) {
            x.step(h);
        }
        Answers.andForward(x, 0).dueAs(CHECK, "step of nothing", Answers.andForward(new LimbWorks(), 0));
        x.body(0, SLIDES);
        due("step of nothing, then a body", x.where(1, 2), 0);
        LimbWorks y = Calls.make(MOST);
        y.step(0);
        y.step(MAX);
        y.step(MIN + 1);
        Answers.andForward(y, MOST).dueAs(CHECK, "step 0", Answers.andForward(Calls.make(MOST), MOST));
    }

    /** Promise 20: 'Each joint's speed grows by its acceleration times h, then each position by the speed times h.' */
    private static void speedThenPosition() {
        LimbWorks x = slider(0, 0, 1);
        x.step(1);
        due("the position grows by the new speed", x.where(1, 2), 1);
        due("the speed has grown", x.energy(), 1);
        due("the acceleration stays", x.acceleration(1), 1);
        x.step(10);
        due("the new speed times h", x.where(1, 2), 1 + 11 * 10);
        due("the speed has grown again", x.energy(), 11 * 11);
    }

    private static LimbWorks slider(int q, int v, int a) {
        LimbWorks x = new LimbWorks();
        x.body(0, SLIDES);
        x.mass(1, 1);
        x.joint(1, q, v, a);
        return x;
    }

    private static void stepWrapsAround() {
        LimbWorks x = slider(5, MAX - 1, 1);
        x.step(1);
        due("the speed goes from P - 1 to 0", x.energy(), 0);
        due("so the position stays", x.where(1, 2), 5);
        LimbWorks y = slider(MAX - 1, 1, 0);
        y.step(1);
        due("the position goes from P - 1 to 0", y.where(1, 2), 0);
        y.step(-1);
        due("and back", y.where(1, 2), MAX - 1);
        LimbWorks z = slider(MAX - 1, MAX - 1, MAX - 1);
        z.step(MAX - 1);
        due("all are P - 1, speed", z.energy(), 0);
        due("all are P - 1, position", z.where(1, 2), MAX - 1);
        z.step(1 << 30);
        due("2^30, speed", z.energy(), Check.number((1L << 30) * (1L << 30)));
        due("2^30, position", z.where(1, 2), Check.number(-1 - (1L << 30) * (1L << 30)));
    }

    /** Seven joints of both kinds: one step is what telling the new speeds and positions is. */
    private static void stepOfEachJoint() {
        int[] times = {1, -1, 3, MIN, 1 << 30, MAX - 1, 123456789};
        for (int h : times) {
            LimbWorks x = Calls.make(MOST);
            LimbWorks y = Calls.make(MOST);
            x.step(h);
            for (int body = 1; body <= MOST; body++) {
                int[] told = Calls.scattered(body, 6);
                int v = grown(told[1], told[2], h);
                y.joint(body, grown(told[0], v, h), v, told[2]);
            }
            Answers.andForward(x, MOST).dueAs(CHECK, "step " + h + " of each", Answers.andForward(y, MOST));
        }
    }

    private static int grown(int before, int by, int h) {
        BigInteger sum = BigInteger.valueOf(by).multiply(BigInteger.valueOf(h)).add(BigInteger.valueOf(before));
        return sum.mod(BigInteger.valueOf(Check.P)).intValueExact();
    }

    /** 'At most 7': the last joint of a chain carries one body, the first all. */
    private static void sevenInAChain() {
        LimbWorks x = new LimbWorks();
        x.gravity(0, 0, -1);
        for (int body = 1; body <= MOST; body++) {
            x.body(body - 1, SLIDES);
            x.mass(body, 1);
            x.place(body, 1, 0, 0);
            x.joint(body, 1, 1, 0);
        }
        long squares = 0;
        for (int body = 1; body <= MOST; body++) {
            due("chain, needs " + body, x.needs(body), MOST + 1 - body);
            due("chain, x " + body, x.where(body, 0), body);
            due("chain, z " + body, x.where(body, 2), body);
            due("chain, matrix " + body, x.matrix(1, body), MOST + 1 - body);
            squares += (long) body * body;
        }
        due("chain, energy", x.energy(), squares);
        due("chain, weight", x.weight(0), 28);
    }

    /** Seven on the ground: each joint carries its own body alone. */
    private static void sevenInBranches() {
        LimbWorks x = new LimbWorks();
        for (int body = 1; body <= MOST; body++) {
            due("branch " + body, x.body(0, TURNS), body);
            x.inertia(body, 0, 0, body);
            x.torque(body, body * (10 + body));
        }
        due("branches, forward", x.forward(), 1);
        for (int body = 1; body <= MOST; body++) {
            due("branches, acceleration " + body, x.acceleration(body), 10 + body);
            due("branches, needs " + body, x.needs(body), body * (10 + body));
            due("branches, matrix " + body, x.matrix(body, body), body);
            due("branches, beside " + body, x.matrix(body, body % MOST + 1), 0);
        }
    }

    /** Each of these runs has 512 calls, and the last answers of them are due. */
    private static void fiveHundredTwelveSteps() {
        LimbWorks x = slider(7, 5, 3);
        int calls = 3;
        int steps = 0;
        while (calls < MOST_CALLS - 2) {
            x.step(1);
            steps++;
            calls++;
        }
        long v = 5 + 3L * steps;
        due("call 511, energy after many steps", x.energy(), Check.number(v * v));
        due("call 512, position after many steps", x.where(1, 2), 7 + 5L * steps + 3L * steps * (steps + 1) / 2);
    }

    private static void fiveHundredTwelveBodies() {
        LimbWorks x = new LimbWorks();
        for (int call = 1; call < MOST_CALLS; call++) {
            due("call " + call + ", body", x.body(call % 2 == 0 ? 0 : Math.min(call - 1, MOST), SLIDES), call <= MOST ? call : NONE);
        }
        CHECK.due("call 512, mass of the seventh", x.mass(MOST, 1), true);
    }

    private static void fiveHundredTwelveForwards() {
        LimbWorks x = Calls.make(MOST);
        int calls = 1 + MOST * (1 + Calls.TELLS.length);
        while (calls < MOST_CALLS - MOST) {
            due("call " + (calls + 1) + ", forward", x.forward(), 1);
            calls++;
        }
        for (int body = 1; body <= MOST; body++) {
            due("call " + (calls + body) + ", needs", x.needs(body), Calls.scattered(body, 7)[0]);
        }
    }

    /** Of every kind of call, on seven bodies, beside the model; the last call is the 512th. */
    private static void fiveHundredTwelveCalls() {
        LimbWorks x = Calls.make(MOST);
        Model y = model();
        int calls = 1 + MOST * (1 + Calls.TELLS.length);
        while (calls < MOST_CALLS) {
            calls++;
            callBoth(calls, x, y);
        }
    }

    private static Model model() {
        Model y = new Model();
        y.gravity(17, -29, 31);
        for (int body = 1; body <= MOST; body++) {
            y.body(Calls.parentOf(body), Calls.slides(body));
            int[][] told = new int[Calls.TELLS.length][];
            for (int kind = 0; kind < told.length; kind++) {
                told[kind] = Calls.scattered(body, kind);
            }
            y.place(body, told[0][0], told[0][1], told[0][2]);
            y.tilt(body, told[1][0]);
            y.mass(body, told[2][0]);
            y.centre(body, told[3][0], told[3][1], told[3][2]);
            y.inertia(body, told[4][0], told[4][1], told[4][2]);
            y.products(body, told[5][0], told[5][1], told[5][2]);
            y.joint(body, told[6][0], told[6][1], told[6][2]);
            y.torque(body, told[7][0]);
        }
        return y;
    }

    private static void callBoth(int call, LimbWorks x, Model y) {
        int body = 1 + call % MOST;
        String what = "call " + call;
        switch (call % 9) {
            case 0 -> due(what + ", needs", x.needs(body), y.needs(body));
            case 1 -> due(what + ", matrix", x.matrix(body, 1 + call % 5), y.matrix(body, 1 + call % 5));
            case 2 -> due(what + ", bias", x.bias(body), y.bias(body));
            case 3 -> due(what + ", acceleration", x.acceleration(body), y.acceleration(body));
            case 4 -> due(what + ", energy", x.energy(), y.energy());
            case 5 -> due(what + ", where", x.where(body, call % 8), y.where(body, call % 8));
            case 6 -> due(what + ", weight", x.weight(call % 4), y.weight(call % 4));
            case 7 -> due(what + ", forward", x.forward(), y.forward());
            default -> {
                x.step(call);
                y.step(call);
            }
        }
    }
}
