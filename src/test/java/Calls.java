/** The calls that name a body, by number, and bodies to make them on. */
final class Calls {
    static final int NONE = LimbWorks.NONE;
    static final int MIN = Integer.MIN_VALUE;
    static final int MAX = Integer.MAX_VALUE;
    static final boolean TURNS = false;
    static final boolean SLIDES = true;
    static final int MOST_BODIES = 7;

    static final String[] TELLS = {"place", "tilt", "mass", "centre", "inertia", "products", "joint", "torque"};
    /** How many numbers each of these is told. */
    static final int[] TOLD = {3, 1, 1, 3, 3, 3, 3, 1};
    static final String[] ASKS = {
        "needs", "matrix with a wrong j", "matrix with a wrong i", "matrix with both wrong", "bias", "acceleration", "where"
    };
    static final int NO_TELL = -1;

    private static final int[] PARENTS = {0, 1, 1, 2, 0, 5, 6};

    private Calls() {
    }

    static boolean tell(LimbWorks x, int kind, int body, int[] told) {
        switch (TELLS[kind]) {
            case "place":
                return x.place(body, told[0], told[1], told[2]);
            case "tilt":
                return x.tilt(body, told[0]);
            case "mass":
                return x.mass(body, told[0]);
            case "centre":
                return x.centre(body, told[0], told[1], told[2]);
            case "inertia":
                return x.inertia(body, told[0], told[1], told[2]);
            case "products":
                return x.products(body, told[0], told[1], told[2]);
            case "joint":
                return x.joint(body, told[0], told[1], told[2]);
            default:
                return x.torque(body, told[0]);
        }
    }

    /** Asks of a body; 'there' is one that is there, if any is. */
    static int ask(LimbWorks x, int kind, int body, int there) {
        switch (ASKS[kind]) {
            case "needs":
                return x.needs(body);
            case "matrix with a wrong j":
                return x.matrix(body, there);
            case "matrix with a wrong i":
                return x.matrix(there, body);
            case "matrix with both wrong":
                return x.matrix(body, body);
            case "bias":
                return x.bias(body);
            case "acceleration":
                return x.acceleration(body);
            default:
                return x.where(body, 0);
        }
    }

    /** Numbers without a pattern, none of them 0, so that each is seen in some answer. */
    static int[] scattered(int body, int kind) {
        int[] told = new int[3];
        for (int part = 0; part < 3; part++) {
            long number = 1 + body * 100 + kind * 10 + part;
            for (int turn = 0; turn < 3; turn++) {
                number = number * 48271 % Check.P;
            }
            told[part] = (int) number;
        }
        return told;
    }

    /** Hangs the body of this number; turning and sliding ones, in chains and in branches. */
    static int hang(LimbWorks x, int body) {
        return x.body(parentOf(body), slides(body));
    }

    static int parentOf(int body) {
        return PARENTS[body - 1];
    }

    static boolean slides(int body) {
        return body % 3 == 0;
    }

    static void tellAllBut(LimbWorks x, int body, int leftOut) {
        for (int kind = 0; kind < TELLS.length; kind++) {
            if (kind != leftOut) {
                tell(x, kind, body, scattered(body, kind));
            }
        }
    }

    /** An object with gravity and bodies that were told everything. */
    static LimbWorks make(int bodies) {
        LimbWorks x = new LimbWorks();
        x.gravity(17, -29, 31);
        for (int body = 1; body <= bodies; body++) {
            hang(x, body);
            tellAllBut(x, body, NO_TELL);
        }
        return x;
    }

    /** Body 1 turns about z; body 2, tilted, has that z as its y, and as its x when it is turned by 1. */
    static LimbWorks tiltedPair() {
        LimbWorks x = new LimbWorks();
        x.body(0, TURNS);
        x.body(1, TURNS);
        x.tilt(2, 1);
        return x;
    }
}
