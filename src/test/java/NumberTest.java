/**
 * 'NUMBERS are those of the FIELD of the integers modulo P: told as any int (what it is modulo P, 0 .. P - 1),
 * answered as 0 .. P - 1', for every call that is told a number and for every call that answers one.
 */
public final class NumberTest {
    private static final int MIN = Calls.MIN;
    private static final int MAX = Calls.MAX;
    private static final boolean TURNS = Calls.TURNS;
    private static final boolean SLIDES = Calls.SLIDES;
    private static final int BODIES = Calls.MOST_BODIES;
    private static final Check CHECK = new Check();

    /** Round 0, P, - P and the ends of int; and some between, whose squares are near a power of two or far above P. */
    private static final int[] EDGES = {
        0, 1, 2, MAX, MAX - 1, MAX - 2, -1, -2, MIN, MIN + 1, MIN + 2, MIN + 3, 1 << 30, -(1 << 30), 46341, -46341, 65536
    };

    public static void main(String[] args) {
        whatAnIntIs();
        for (int told : EDGES) {
            placeTold(told);
            tiltTold(told);
            massTold(told);
            centreTold(told);
            inertiaTold(told);
            productsTold(told);
            positionTold(told);
            speedTold(told);
            accelerationTold(told);
            torqueTold(told);
            gravityTold(told);
            stepTold(told);
            sameAsItsNumber(told);
        }
        belowZero();
        justP();
        CHECK.end();
    }

    private static void due(String what, long got, long want) {
        CHECK.due(what, got, want);
    }

    /** Written out, so that nothing is reckoned: the number that each of the ends of int is. */
    private static void whatAnIntIs() {
        int[][] pairs = {
            {MAX, 0}, {MAX - 1, MAX - 1}, {-1, MAX - 1}, {-2, MAX - 2}, {MIN, MAX - 1}, {MIN + 1, 0}, {MIN + 2, 1}, {MIN + 3, 2}
        };
        LimbWorks x = new LimbWorks();
        x.body(0, TURNS);
        for (int[] pair : pairs) {
            x.joint(1, 0, 0, pair[0]);
            due("the number of " + pair[0], x.acceleration(1), pair[1]);
        }
    }

    private static LimbWorks one(boolean slides) {
        LimbWorks x = new LimbWorks();
        x.body(0, slides);
        return x;
    }

    private static void placeTold(int told) {
        LimbWorks x = one(TURNS);
        for (int part = 0; part < 3; part++) {
            x.place(1, part == 0 ? told : 5, part == 1 ? told : 5, part == 2 ? told : 5);
            due("place, part " + part + " " + told, x.where(1, part), Check.number(told));
            due("place, the next part", x.where(1, (part + 1) % 3), 5);
        }
    }

    private static void tiltTold(int told) {
        LimbWorks x = one(SLIDES);
        x.tilt(1, told);
        long t = Check.number(told);
        due("tilt " + told + ", x", x.where(1, 6), 0);
        due("tilt " + told + ", y", x.where(1, 7), Check.part(-2 * t, 1 + t * t));
        due("tilt " + told + ", z", x.where(1, 8), Check.part(1 - t * t, 1 + t * t));
        x.centre(1, 0, 1, 0);
        due("tilt " + told + ", y of the centre", x.where(1, 4), Check.part(1 - t * t, 1 + t * t));
        due("tilt " + told + ", z of the centre", x.where(1, 5), Check.part(2 * t, 1 + t * t));
    }

    private static void massTold(int told) {
        LimbWorks x = one(SLIDES);
        x.mass(1, told);
        due("mass " + told + ", weight", x.weight(3), Check.number(told));
        due("mass " + told + ", matrix", x.matrix(1, 1), Check.number(told));
    }

    private static void centreTold(int told) {
        LimbWorks x = one(TURNS);
        for (int part = 0; part < 3; part++) {
            x.centre(1, part == 0 ? told : 5, part == 1 ? told : 5, part == 2 ? told : 5);
            due("centre, part " + part + " " + told, x.where(1, 3 + part), Check.number(told));
            due("centre, the next part", x.where(1, 3 + (part + 1) % 3), 5);
        }
    }

    private static void inertiaTold(int told) {
        LimbWorks x = Calls.tiltedPair();
        x.inertia(2, 5, 5, told);
        due("inertia, zz " + told, x.matrix(2, 2), Check.number(told));
        x.inertia(2, 5, told, 5);
        due("inertia, yy " + told, x.matrix(1, 1), Check.number(told));
        x.joint(2, 1, 0, 0);
        x.inertia(2, told, 5, 5);
        due("inertia, xx " + told, x.matrix(1, 1), Check.number(told));
    }

    private static void productsTold(int told) {
        LimbWorks x = Calls.tiltedPair();
        x.products(2, 5, 5, told);
        due("products, yz " + told, x.matrix(1, 2), Check.number(told));
        due("products, zy " + told, x.matrix(2, 1), Check.number(told));
        x.joint(2, 1, 0, 0);
        x.products(2, 5, told, 5);
        due("products, xz " + told, x.matrix(1, 2), Check.number(told));
        due("products, zx " + told, x.matrix(2, 1), Check.number(told));
        x.joint(2, 2, 0, 0);
        x.products(2, told, 5, 5);
        due("products, xy " + told, x.matrix(1, 1), Check.part(-24 * Check.number(told), 25));
    }

    private static void positionTold(int told) {
        LimbWorks x = one(SLIDES);
        x.joint(1, told, 5, 5);
        due("position " + told, x.where(1, 2), Check.number(told));
        LimbWorks y = one(TURNS);
        y.centre(1, 1, 0, 0);
        y.joint(1, told, 5, 5);
        long q = Check.number(told);
        due("position of a turn " + told + ", x", y.where(1, 3), Check.part(1 - q * q, 1 + q * q));
        due("position of a turn " + told + ", y", y.where(1, 4), Check.part(2 * q, 1 + q * q));
    }

    private static void speedTold(int told) {
        LimbWorks x = one(SLIDES);
        x.mass(1, 1);
        x.joint(1, 5, told, 5);
        long v = Check.number(told);
        due("speed " + told + ", energy", x.energy(), Check.number(v * v));
        x.joint(1, 0, told, 0);
        x.step(1);
        due("speed " + told + ", step", x.where(1, 2), v);
    }

    private static void accelerationTold(int told) {
        LimbWorks x = one(SLIDES);
        x.mass(1, 1);
        x.joint(1, 5, 5, told);
        due("acceleration " + told, x.acceleration(1), Check.number(told));
        due("acceleration " + told + ", needs", x.needs(1), Check.number(told));
    }

    private static void torqueTold(int told) {
        LimbWorks x = one(SLIDES);
        x.mass(1, 1);
        x.torque(1, told);
        due("torque " + told + ", forward", x.forward(), 1);
        due("torque " + told, x.acceleration(1), Check.number(told));
    }

    private static void gravityTold(int told) {
        LimbWorks x = one(TURNS);
        x.body(0, SLIDES);
        x.mass(1, 1);
        x.mass(2, 1);
        x.centre(1, 0, 1, 0);
        x.gravity(told, 5, 5);
        due("gravity, x " + told, x.needs(1), Check.number(told));
        x.centre(1, 1, 0, 0);
        x.gravity(5, told, 5);
        due("gravity, y " + told, x.bias(1), Check.number(-Check.number(told)));
        x.gravity(5, 5, told);
        due("gravity, z " + told, x.needs(2), Check.number(-Check.number(told)));
        LimbWorks y = one(TURNS);
        y.joint(1, 1, 0, 0);
        y.body(1, SLIDES);
        y.tilt(2, 1);
        y.mass(2, 1);
        y.gravity(told, 5, 5);
        due("gravity, x " + told + ", of one that slides along x", y.needs(2), Check.number(-Check.number(told)));
        y.joint(1, 0, 0, 0);
        y.gravity(5, told, 5);
        due("gravity, y " + told + ", of one that slides along - y", y.needs(2), Check.number(told));
    }

    private static void stepTold(int told) {
        LimbWorks x = one(SLIDES);
        x.mass(1, 1);
        x.joint(1, 7, 5, 3);
        x.step(told);
        long h = Check.number(told);
        long v = Check.number(5 + 3 * h);
        due("step " + told + ", speed", x.energy(), Check.number(v * v));
        due("step " + told + ", position", x.where(1, 2), Check.number(7 + v * h));
    }

    /** An int and the number that it is, told in every place of every call: all answers are the same. */
    private static void sameAsItsNumber(int told) {
        int number = (int) Check.number(told);
        if (told == number) {
            return;
        }
        for (int kind = 0; kind < Calls.TELLS.length; kind++) {
            for (int part = 0; part < Calls.TOLD[kind]; part++) {
                String what = Calls.TELLS[kind] + ", part " + part + " " + told;
                dueSame(what + " of one", toldIn(kind, part, told, 2), toldIn(kind, part, number, 2));
                dueSame(what + " of all", toldIn(kind, part, told, BODIES), toldIn(kind, part, number, BODIES));
                dueSame(what + " alone", toldAlone(kind, part, told), toldAlone(kind, part, number));
            }
        }
        for (int part = 0; part < 3; part++) {
            dueSame("gravity, part " + part + " " + told, pulled(part, told), pulled(part, number));
        }
        dueSame("step " + told, stepped(told), stepped(number));
    }

    /** Told of body 2 and those behind it, up to the last one. */
    private static LimbWorks toldIn(int kind, int part, int told, int last) {
        LimbWorks x = Calls.make(BODIES);
        for (int body = 2; body <= last; body++) {
            int[] numbers = Calls.scattered(body, kind);
            numbers[part] = told;
            Calls.tell(x, kind, body, numbers);
        }
        return x;
    }

    /** Told of all bodies of a chain with nothing beside it but 0, so that nothing covers it. */
    private static LimbWorks toldAlone(int kind, int part, int told) {
        LimbWorks x = new LimbWorks();
        for (int body = 1; body <= BODIES; body++) {
            x.body(body - 1, Calls.slides(body));
            x.joint(body, body, body, body);
            x.tilt(body, 1);
            x.mass(body, body % 2);
            x.place(body, 0, MAX - body, 0);
            int[] numbers = new int[3];
            numbers[part] = told;
            Calls.tell(x, kind, body, numbers);
        }
        return x;
    }

    private static LimbWorks pulled(int part, int told) {
        LimbWorks x = Calls.make(BODIES);
        x.gravity(part == 0 ? told : 5, part == 1 ? told : 5, part == 2 ? told : 5);
        return x;
    }

    private static LimbWorks stepped(int told) {
        LimbWorks x = Calls.make(BODIES);
        x.step(told);
        return x;
    }

    private static void dueSame(String what, LimbWorks x, LimbWorks y) {
        Answers got = Answers.andForward(x, BODIES);
        got.dueAs(CHECK, what, Answers.andForward(y, BODIES));
        got.dueNumbers(CHECK, what);
    }

    /** Two bodies that slide, the second on the first, of masses 1 and - 1. */
    private static LimbWorks opposites() {
        LimbWorks x = one(SLIDES);
        x.body(1, SLIDES);
        x.mass(1, 1);
        x.mass(2, -1);
        return x;
    }

    /** What is - 1 in the integers is answered as P - 1, by every call that answers numbers. */
    private static void belowZero() {
        LimbWorks x = opposites();
        due("- 1, matrix", x.matrix(2, 2), MAX - 1);
        x.joint(2, 0, 1, 1);
        due("- 1, needs", x.needs(2), MAX - 1);
        due("- 1, energy", x.energy(), MAX - 1);
        x.gravity(0, 0, -1);
        due("- 1, bias", x.bias(2), MAX - 1);
        x.place(1, -1, 0, 0);
        x.centre(1, 0, -1, 0);
        x.tilt(2, 1);
        due("- 1, origin", x.where(1, 0), MAX - 1);
        due("- 1, centre", x.where(1, 4), MAX - 1);
        due("- 1, axis", x.where(2, 7), MAX - 1);
        x.mass(2, 0);
        due("- 1, weight", x.weight(0), MAX - 1);
        x.mass(1, -1);
        due("- 1, masses", x.weight(3), MAX - 1);
        x.joint(2, 0, 0, -1);
        due("- 1, acceleration", x.acceleration(2), MAX - 1);
    }

    /** What adds up to just P is answered as 0. */
    private static void justP() {
        LimbWorks x = opposites();
        due("P, matrix", x.matrix(1, 1), 0);
        due("P, masses", x.weight(3), 0);
        x.gravity(0, 0, 1);
        due("P, bias", x.bias(1), 0);
        x.joint(1, 0, 1, 1);
        due("P, needs", x.needs(1), 0);
        due("P, energy", x.energy(), 0);
        x.place(1, 1, 1, 1);
        x.place(2, -1, MAX - 1, MIN);
        x.centre(2, MAX, MIN + 1, 0);
        for (int what = 0; what <= 5; what++) {
            due("P, where " + what, x.where(2, what), 0);
        }
        x.mass(2, 0);
        x.mass(1, 1);
        x.centre(1, -1, MAX - 1, MIN);
        for (int axis = 0; axis <= 2; axis++) {
            due("P, weight " + axis, x.weight(axis), 0);
        }
    }
}
