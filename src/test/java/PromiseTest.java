/** For each promise of the document answers that were worked out by hand. */
public final class PromiseTest {
    private static final int NONE = LimbWorks.NONE;
    private static final int MIN = Integer.MIN_VALUE;
    private static final int MAX = Integer.MAX_VALUE;
    private static final boolean TURNS = false;
    private static final boolean SLIDES = true;
    private static final Check CHECK = new Check();

    public static void main(String[] args) {
        promise1();
        promise2();
        promise2Numbers();
        promise3();
        promise4();
        promise5();
        promise6();
        promise7();
        promise8();
        promise9();
        promise10();
        promise11();
        promise12();
        promise12Branches();
        promise12TwoTurns();
        promise13();
        promise14();
        promise15();
        promise16();
        promise17();
        promise18();
        promise19();
        promise20();
        CHECK.end();
    }

    private static void due(String what, long got, long want) {
        CHECK.due(what, got, want);
    }

    private static void due(String what, boolean got, boolean want) {
        CHECK.due(what, got, want);
    }

    /** The answers of 'where' from 'first' on. */
    private static void dueVector(String what, LimbWorks x, int body, int first, long... want) {
        for (int k = 0; k < 3; k++) {
            due(what + ", part " + k, x.where(body, first + k), Check.number(want[k]));
        }
    }

    private static void promise1() {
        LimbWorks x = new LimbWorks();
        due("1: energy of nothing", x.energy(), 0);
        for (int axis = 0; axis <= 3; axis++) {
            due("1: weight of nothing", x.weight(axis), 0);
        }
        due("1: the ground's needs", x.needs(0), NONE);
        due("1: no body", x.needs(1), NONE);
        x.step(1);
        due("1: first number", x.body(0, SLIDES), 1);
        x.mass(1, 3);
        due("1: no gravity", x.needs(1), 0);
        due("1: an object of its own", new LimbWorks().body(1, TURNS), NONE);
    }

    private static void promise2() {
        LimbWorks x = new LimbWorks();
        int[] noParents = {-1, 1, 2, 7, 8, MIN, MAX};
        for (int parent : noParents) {
            due("2: parent " + parent, x.body(parent, TURNS), NONE);
        }
        for (int k = 1; k <= 7; k++) {
            due("2: its own number as parent", x.body(k, TURNS), NONE);
            due("2: body " + k, x.body(k == 1 ? 0 : k - 1, k % 2 == 0), k);
        }
        for (int parent = -1; parent <= 8; parent++) {
            due("2: an eighth", x.body(parent, SLIDES), NONE);
        }
        due("2: the seventh is there", x.mass(7, 1), true);
        due("2: the eighth is not", x.mass(8, 1), false);
        due("2: one mass", x.weight(3), 1);
    }

    private static void promise2Numbers() {
        LimbWorks x = new LimbWorks();
        x.gravity(1, 2, 3);
        x.body(0, TURNS);
        x.body(1, SLIDES);
        x.body(0, SLIDES);
        for (int body = 1; body <= 3; body++) {
            dueVector("2: new body's origin", x, body, 0, 0, 0, 0);
            dueVector("2: new body's centre", x, body, 3, 0, 0, 0);
            dueVector("2: new body's axis", x, body, 6, 0, 0, 1);
            due("2: new body's acceleration", x.acceleration(body), 0);
            due("2: new body's needs", x.needs(body), 0);
            due("2: new body's matrix", x.matrix(body, body), 0);
        }
        x.place(1, 5, 0, 0);
        dueVector("2: it hangs on 1", x, 2, 0, 5, 0, 0);
        dueVector("2: it hangs on the ground", x, 3, 0, 0, 0, 0);
        x.joint(1, 1, 0, 0);
        x.joint(2, 4, 0, 0);
        dueVector("2: it turns", x, 1, 0, 5, 0, 0);
        dueVector("2: it slides", x, 2, 0, 5, 0, 4);
    }

    private static void promise3() {
        LimbWorks x = new LimbWorks();
        x.body(0, TURNS);
        x.body(1, TURNS);
        due("3: place", x.place(1, -1, MAX, MIN), true);
        dueVector("3: any int", x, 1, 0, -1, 0, -1);
        due("3: place anew", x.place(1, 10, 20, 30), true);
        dueVector("3: anew", x, 1, 0, 10, 20, 30);
        due("3: place on 1", x.place(2, 1, 2, 3), true);
        dueVector("3: in the parent's frame", x, 2, 0, 11, 22, 33);
        x.joint(1, 1, 0, 0);
        dueVector("3: the parent turned", x, 2, 0, 8, 21, 33);
        x.joint(2, 1, 0, 0);
        x.tilt(2, 1);
        dueVector("3: not in its own frame", x, 2, 0, 8, 21, 33);
    }

    private static void promise4() {
        LimbWorks x = new LimbWorks();
        x.body(0, TURNS);
        x.body(1, SLIDES);
        due("4: tilt", x.tilt(1, 1), true);
        dueVector("4: axis", x, 1, 6, 0, -1, 0);
        due("4: tilt anew", x.tilt(1, 2), true);
        dueVector("4: axis anew", x, 1, 6, 0, Check.part(-4, 5), Check.part(-3, 5));
        x.tilt(1, -2);
        dueVector("4: axis the other way", x, 1, 6, 0, Check.part(4, 5), Check.part(-3, 5));
        x.tilt(1, MIN);
        dueVector("4: any int", x, 1, 6, 0, 1, 0);
        x.tilt(1, 1);
        due("4: tilt of one that slides", x.tilt(2, 1), true);
        dueVector("4: two tilts", x, 2, 6, 0, 0, -1);
        x.joint(1, 1, 0, 0);
        dueVector("4: a turn between", x, 2, 6, 1, 0, 0);
    }

    private static void promise5() {
        LimbWorks x = new LimbWorks();
        x.body(0, SLIDES);
        x.body(1, SLIDES);
        due("5: mass", x.mass(1, 7), true);
        due("5: mass", x.mass(2, MIN), true);
        due("5: one", x.matrix(2, 2), Check.P - 1);
        due("5: both", x.matrix(1, 1), 6);
        due("5: anew", x.mass(1, MAX), true);
        due("5: both anew", x.matrix(1, 1), Check.P - 1);
    }

    private static void promise6() {
        LimbWorks x = new LimbWorks();
        x.body(0, TURNS);
        x.place(1, 1, 1, 1);
        due("6: centre", x.centre(1, 2, MIN, MAX), true);
        dueVector("6: any int", x, 1, 3, 3, 0, 1);
        x.centre(1, 2, 3, 4);
        x.joint(1, 1, 0, 0);
        dueVector("6: in its own frame", x, 1, 3, -2, 3, 5);
        dueVector("6: the origin stays", x, 1, 0, 1, 1, 1);
        x.mass(1, 10);
        due("6: distance to the axis", x.matrix(1, 1), 130);
    }

    private static void promise7() {
        LimbWorks x = Calls.tiltedPair();
        due("7: inertia", x.inertia(2, 2, 3, 5), true);
        due("7: zz", x.matrix(2, 2), 5);
        due("7: yy", x.matrix(1, 1), 3);
        x.joint(2, 1, 0, 0);
        due("7: xx", x.matrix(1, 1), 2);
        x.joint(2, 2, 0, 0);
        due("7: xx and yy", x.matrix(1, 1), Check.part(16 * 2 + 9 * 3, 25));
        x.products(2, 1, 1, 1);
        due("7: inertia anew", x.inertia(2, MIN, 0, MAX), true);
        due("7: any int", x.matrix(2, 2), 0);
        due("7: products stay", x.matrix(1, 1), Check.part(16 * -1 - 24, 25));
    }

    private static void promise8() {
        LimbWorks x = Calls.tiltedPair();
        x.inertia(2, 2, 3, 5);
        due("8: products", x.products(2, 7, 11, 13), true);
        due("8: yz", x.matrix(1, 2), 13);
        due("8: the diagonal stays", x.matrix(2, 2), 5);
        x.joint(2, 1, 0, 0);
        due("8: xz", x.matrix(1, 2), 11);
        due("8: xz too", x.matrix(2, 1), 11);
        x.joint(2, 2, 0, 0);
        due("8: xy", x.matrix(1, 1), Check.part(16 * 2 - 24 * 7 + 9 * 3, 25));
        due("8: products anew", x.products(2, MAX, MIN, MAX), true);
        due("8: any int", x.matrix(1, 2), Check.part(-4, 5));
    }

    private static void promise9() {
        LimbWorks x = new LimbWorks();
        x.body(0, SLIDES);
        x.mass(1, 2);
        due("9: joint", x.joint(1, 3, 4, 5), true);
        due("9: position", x.where(1, 2), 3);
        due("9: speed", x.energy(), 32);
        due("9: acceleration", x.acceleration(1), 5);
        due("9: joint anew", x.joint(1, MIN, MAX, -2), true);
        due("9: position, any int", x.where(1, 2), Check.P - 1);
        due("9: speed, any int", x.energy(), 0);
        due("9: acceleration, any int", x.acceleration(1), Check.P - 2);
        x.torque(1, 8);
        x.joint(1, 0, 0, 0);
        x.forward();
        due("9: the torque stays", x.acceleration(1), 4);
    }

    private static void promise10() {
        LimbWorks x = new LimbWorks();
        x.body(0, SLIDES);
        x.mass(1, 1);
        due("10: torque", x.torque(1, MIN), true);
        due("10: forward", x.forward(), 1);
        due("10: any int", x.acceleration(1), Check.P - 1);
        due("10: torque anew", x.torque(1, MAX), true);
        due("10: it moves nothing by itself", x.acceleration(1), Check.P - 1);
        due("10: forward", x.forward(), 1);
        due("10: any int", x.acceleration(1), 0);
    }

    private static void promise11() {
        LimbWorks x = new LimbWorks();
        x.body(0, SLIDES);
        x.body(0, TURNS);
        x.mass(1, 3);
        x.mass(2, 5);
        x.centre(2, 1, 0, 0);
        x.gravity(2, -10, 7);
        due("11: z", x.needs(1), Check.number(-21));
        due("11: y", x.needs(2), 50);
        x.joint(2, 1, 0, 0);
        due("11: x, not turned with the body", x.needs(2), 10);
        x.gravity(MIN, MAX, MIN);
        due("11: any int, z", x.needs(1), 3);
        due("11: any int, x", x.needs(2), Check.P - 5);
        x.body(0, SLIDES);
        x.mass(3, 1);
        due("11: for a later body too", x.needs(3), 1);
    }

    private static void promise12() {
        LimbWorks x = new LimbWorks();
        x.body(0, TURNS);
        x.mass(1, 3);
        x.centre(1, 2, 0, 0);
        x.inertia(1, 0, 0, 4);
        x.gravity(0, -10, 0);
        x.joint(1, 0, 9, 5);
        due("12: a pendulum", x.needs(1), 16 * 5 + 60);

        LimbWorks y = tiltedSlider();
        due("12: turning under one that slides", y.needs(1), 2 * 7 * 3 * 5 * 2);
        due("12: sliding outwards", y.needs(2), Check.number(-7 * 12 + 7 * 4));
        due("12: the ground", y.needs(0), NONE);
        due("12: not there", y.needs(3), NONE);
    }

    /** A body of mass 7 that slides along - y of one that turns: at 3, speed 5, acceleration 4; the other's speed is 2. */
    private static LimbWorks tiltedSlider() {
        LimbWorks x = new LimbWorks();
        x.body(0, TURNS);
        x.body(1, SLIDES);
        x.tilt(2, 1);
        x.mass(2, 7);
        x.joint(1, 0, 2, 0);
        x.joint(2, 3, 5, 4);
        return x;
    }

    /** Bodies 2 and 3 hang on 1, 4 on 2, and 5 on the ground: each joint carries just what hangs on it. */
    private static void promise12Branches() {
        LimbWorks x = new LimbWorks();
        int[] parents = {0, 1, 1, 2, 0};
        for (int k = 1; k <= 5; k++) {
            x.body(parents[k - 1], SLIDES);
            x.mass(k, 1 << (4 * (k - 1)));
        }
        x.gravity(0, 0, -1);
        long[] want = {0x1111, 0x1010, 0x100, 0x1000, 0x10000};
        for (int k = 1; k <= 5; k++) {
            due("12: branch " + k, x.needs(k), want[k - 1]);
        }
    }

    /** Two turns at once: the moments that come from the turning of a turning body. */
    private static void promise12TwoTurns() {
        LimbWorks x = Calls.tiltedPair();
        x.inertia(2, 2, 3, 5);
        x.products(2, 7, 11, 13);
        x.joint(1, 0, 1, 0);
        x.joint(2, 0, 2, 0);
        due("12: two turns, 1", x.needs(1), 4 * 7 + 4 * 11);
        due("12: two turns, 2", x.needs(2), Check.number(-7));
        x.joint(2, 1, 2, 0);
        due("12: two turns further, 1", x.needs(1), Check.number(-4 * 7 - 4 * 13));
        due("12: two turns further, 2", x.needs(2), 7);
    }

    private static void promise13() {
        LimbWorks x = tiltedSlider();
        x.gravity(5, 6, 7);
        due("13: (1, 1)", x.matrix(1, 1), 63);
        due("13: (2, 2)", x.matrix(2, 2), 7);
        due("13: (1, 2)", x.matrix(1, 2), 0);
        x.place(2, 1, 0, 0);
        due("13: (1, 2), moved", x.matrix(1, 2), Check.number(-7));
        due("13: (2, 1), moved", x.matrix(2, 1), Check.number(-7));
        due("13: (1, 1), moved", x.matrix(1, 1), 70);
        int[][] none = {{0, 1}, {1, 0}, {0, 0}, {3, 1}, {1, 3}, {-1, 1}, {1, -1}, {MIN, 2}, {2, MAX}};
        for (int[] pair : none) {
            due("13: (" + pair[0] + ", " + pair[1] + ")", x.matrix(pair[0], pair[1]), NONE);
        }
    }

    private static void promise14() {
        LimbWorks x = tiltedSlider();
        x.joint(1, 0, 2, 9);
        due("14: without the accelerations", x.bias(2), Check.number(-7 * 12));
        due("14: of the other", x.bias(1), 420);
        x.gravity(0, -10, 0);
        due("14: with gravity", x.bias(2), Check.number(-7 * 12 - 70));
        due("14: the accelerations stay", x.acceleration(1), 9);
        due("14: the ground", x.bias(0), NONE);
        due("14: not there", x.bias(3), NONE);
    }

    private static void promise15() {
        due("15: no corner at all", new LimbWorks().forward(), 1);
        LimbWorks x = tiltedSlider();
        x.place(2, 1, 0, 0);
        x.gravity(0, -10, 0);
        x.torque(1, -3);
        x.torque(2, 8);
        x.mass(2, 0);
        due("15: not there", x.forward(), 0);
        due("15: nothing is changed in 1", x.acceleration(1), 0);
        due("15: nothing is changed in 2", x.acceleration(2), 4);
        x.mass(2, 7);
        x.inertia(1, 0, 0, 1);
        due("15: there", x.forward(), 1);
        due("15: the torque of 1", x.needs(1), Check.number(-3));
        due("15: the torque of 2", x.needs(2), 8);
        due("15: the speeds stay", x.energy(), 4 * 71 - 2 * 70 + 25 * 7);
        dueVector("15: the positions stay", x, 2, 0, 1, -3, 0);
    }

    private static void promise16() {
        LimbWorks x = new LimbWorks();
        x.body(0, TURNS);
        due("16: new", x.acceleration(1), 0);
        x.joint(1, 1, 2, MAX - 1);
        due("16: as it is", x.acceleration(1), Check.P - 1);
        x.joint(1, 1, 2, MAX);
        due("16: P is 0", x.acceleration(1), 0);
        x.joint(1, 1, 2, 3);
        x.step(5);
        x.needs(1);
        x.matrix(1, 1);
        due("16: it stays", x.acceleration(1), 3);
        due("16: the ground", x.acceleration(0), NONE);
        due("16: not there", x.acceleration(2), NONE);
    }

    private static void promise17() {
        LimbWorks x = tiltedSlider();
        x.gravity(5, 6, 7);
        due("17: twice the energy", x.energy(), 4 * 63 + 25 * 7);
        x.place(2, 1, 0, 0);
        due("17: both orders of a pair", x.energy(), 4 * 70 - 2 * 2 * 5 * 7 + 25 * 7);
        x.joint(2, 3, -5, 4);
        due("17: the other way", x.energy(), 4 * 70 + 2 * 2 * 5 * 7 + 25 * 7);
        due("17: the acceleration stays", x.acceleration(2), 4);
    }

    private static void promise18() {
        LimbWorks x = new LimbWorks();
        x.body(0, TURNS);
        x.body(1, SLIDES);
        x.place(1, 1, 2, 3);
        x.centre(1, 10, 20, 30);
        x.tilt(1, 1);
        x.joint(1, 1, 0, 0);
        dueVector("18: origin", x, 1, 0, 1, 2, 3);
        dueVector("18: centre", x, 1, 3, 1 - 20, 2 - 30, 3 + 10);
        dueVector("18: axis", x, 1, 6, 0, -1, 0);
        x.place(2, 1, 0, 0);
        x.centre(2, 0, 0, 100);
        x.joint(2, 7, 0, 0);
        dueVector("18: origin, slid", x, 2, 0, 1, 2 - 7, 3 + 1);
        dueVector("18: centre, slid", x, 2, 3, 1, 2 - 7 - 100, 3 + 1);
        dueVector("18: axis, slid", x, 2, 6, 0, -1, 0);
        int[] noWhats = {-1, 9, 10, MIN, MAX};
        for (int what : noWhats) {
            due("18: what " + what, x.where(1, what), NONE);
        }
        for (int what = -1; what <= 9; what++) {
            due("18: the ground", x.where(0, what), NONE);
            due("18: not there", x.where(3, what), NONE);
        }
    }

    private static void promise19() {
        LimbWorks x = new LimbWorks();
        x.body(0, TURNS);
        x.body(1, SLIDES);
        x.mass(1, 2);
        x.mass(2, 3);
        x.place(1, 1, 0, 0);
        x.centre(1, 1, 2, 3);
        x.place(2, 10, 20, 30);
        x.joint(2, 100, 0, 0);
        due("19: x", x.weight(0), 2 * 2 + 3 * 11);
        due("19: y", x.weight(1), 2 * 2 + 3 * 20);
        due("19: z", x.weight(2), 2 * 3 + 3 * 130);
        due("19: masses", x.weight(3), 5);
        x.joint(1, 1, 0, 0);
        due("19: x, turned", x.weight(0), Check.number(2 * -1 + 3 * -19));
        x.mass(1, MIN);
        due("19: masses, any int", x.weight(3), 2);
        int[] noAxes = {-1, 4, 5, MIN, MAX};
        for (int axis : noAxes) {
            due("19: axis " + axis, x.weight(axis), NONE);
        }
    }

    private static void promise20() {
        LimbWorks x = new LimbWorks();
        x.body(0, SLIDES);
        x.body(0, SLIDES);
        x.mass(1, 1);
        x.joint(1, 1000, 100, 10);
        x.joint(2, 1, 2, 3);
        x.step(2);
        due("20: the speed first", x.energy(), 120 * 120);
        due("20: then the position", x.where(1, 2), 1240);
        due("20: the acceleration stays", x.acceleration(1), 10);
        due("20: each joint", x.where(2, 2), 1 + 8 * 2);
        x.step(MAX);
        due("20: P is 0", x.where(1, 2), 1240);
        x.step(MIN);
        due("20: back by 1", x.where(1, 2), 1240 - 110);
        due("20: each joint back", x.where(2, 2), 17 - 5);
        x.body(0, SLIDES);
        due("20: a later body is still", x.where(3, 2), 0);
    }
}
