/**
 * The dynamics of bodies that hang on one another by joints, over the integers modulo 2147483647.
 * Body 0 is the ground. The rows have one place a body; what stands at place 0 is never used.
 */
public final class LimbWorks {
    public static final int NONE = -1;

    private static final int MOST_BODIES = 7;
    private static final int LAST_WHAT = 8;
    private static final int MASS_AXIS = 3;

    private final Body[] bodies;
    private int count;

    private final Vector gravity;
    private final Vector noGravity;

    private final long[] positions;
    private final long[] speeds;
    private final long[] accelerations;
    private final long[] torques;

    private final long[] rest;
    private final long[] unit;
    private final long[] needed;

    private final long[][] entries;
    private final long[] gaps;
    private final long[] inversePivots;

    public LimbWorks() {
        int places = MOST_BODIES + 1;
        bodies = new Body[places];
        for (int k = 0; k < places; k++) {
            bodies[k] = new Body();
        }
        count = 0;
        gravity = new Vector(0, 0, 0);
        noGravity = new Vector(0, 0, 0);
        positions = new long[places];
        speeds = new long[places];
        accelerations = new long[places];
        torques = new long[places];
        rest = new long[places];
        unit = new long[places];
        needed = new long[places];
        entries = new long[places][places];
        gaps = new long[places];
        inversePivots = new long[places];
    }

    public int body(int parent, boolean slides) {
        if (parent < 0 || parent > count || count >= MOST_BODIES) {
            return NONE;
        }
        count++;
        bodies[count].hangOn(parent, slides);
        return count;
    }

    public boolean place(int body, int x, int y, int z) {
        if (!isThere(body)) {
            return false;
        }
        bodies[body].place.tell(x, y, z);
        return true;
    }

    public boolean tilt(int body, int t) {
        if (!isThere(body)) {
            return false;
        }
        bodies[body].tilt = Field.of(t);
        return true;
    }

    public boolean mass(int body, int m) {
        if (!isThere(body)) {
            return false;
        }
        bodies[body].mass = Field.of(m);
        return true;
    }

    public boolean centre(int body, int x, int y, int z) {
        if (!isThere(body)) {
            return false;
        }
        bodies[body].centre.tell(x, y, z);
        return true;
    }

    public boolean inertia(int body, int xx, int yy, int zz) {
        if (!isThere(body)) {
            return false;
        }
        bodies[body].inertia.tellDiagonal(xx, yy, zz);
        return true;
    }

    public boolean products(int body, int xy, int xz, int yz) {
        if (!isThere(body)) {
            return false;
        }
        bodies[body].inertia.tellOthers(xy, xz, yz);
        return true;
    }

    public boolean joint(int body, int q, int v, int a) {
        if (!isThere(body)) {
            return false;
        }
        positions[body] = Field.of(q);
        speeds[body] = Field.of(v);
        accelerations[body] = Field.of(a);
        return true;
    }

    public boolean torque(int body, int f) {
        if (!isThere(body)) {
            return false;
        }
        torques[body] = Field.of(f);
        return true;
    }

    public void gravity(int x, int y, int z) {
        gravity.tell(x, y, z);
    }

    public int needs(int body) {
        if (!isThere(body)) {
            return NONE;
        }
        standAll();
        findNeeded(gravity, speeds, accelerations);
        return (int) needed[body];
    }

    public int matrix(int j, int i) {
        if (!isThere(j) || !isThere(i)) {
            return NONE;
        }
        standAll();
        fillColumn(i);
        return (int) entries[j][i];
    }

    public int bias(int body) {
        if (!isThere(body)) {
            return NONE;
        }
        standAll();
        findNeeded(gravity, speeds, rest);
        return (int) needed[body];
    }

    public int forward() {
        standAll();
        for (int i = 1; i <= count; i++) {
            fillColumn(i);
        }
        fillGaps();
        if (!clearUpperEntries()) {
            return 0;
        }
        solveAccelerations();
        return 1;
    }

    public int acceleration(int body) {
        if (!isThere(body)) {
            return NONE;
        }
        return (int) accelerations[body];
    }

    public int energy() {
        standAll();
        // The matrix times the speeds is what joints at rest need for accelerations as large as the speeds.
        findNeeded(noGravity, rest, speeds);
        long sum = 0;
        for (int k = 1; k <= count; k++) {
            sum = Field.plus(sum, Field.times(speeds[k], needed[k]));
        }
        return (int) sum;
    }

    public int where(int body, int what) {
        if (!isThere(body) || what < 0 || what > LAST_WHAT) {
            return NONE;
        }
        standAll();
        return (int) bodies[body].answerVector(what / 3).part(what % 3);
    }

    public int weight(int axis) {
        if (axis < 0 || axis > MASS_AXIS) {
            return NONE;
        }
        standAll();
        long sum = 0;
        for (int k = 1; k <= count; k++) {
            long factor = axis == MASS_AXIS ? 1 : bodies[k].middle.part(axis);
            sum = Field.plus(sum, Field.times(bodies[k].mass, factor));
        }
        return (int) sum;
    }

    public void step(int h) {
        long time = Field.of(h);
        for (int k = 1; k <= count; k++) {
            speeds[k] = Field.plus(speeds[k], Field.times(accelerations[k], time));
            positions[k] = Field.plus(positions[k], Field.times(speeds[k], time));
        }
    }

    private boolean isThere(int body) {
        return body >= 1 && body <= count;
    }

    /** Brings every body to where the positions put it; a parent's number is lower, so it stands first. */
    private void standAll() {
        for (int k = 1; k <= count; k++) {
            bodies[k].stand(bodies[bodies[k].parent], positions[k]);
        }
    }

    /** The torques that all joints need, for bodies that stand already. */
    private void findNeeded(Vector pull, long[] withSpeeds, long[] withAccelerations) {
        bodies[0].standAgainst(pull);
        for (int k = 1; k <= count; k++) {
            bodies[k].move(bodies[bodies[k].parent], withSpeeds[k], withAccelerations[k]);
            bodies[k].load();
        }
        for (int k = count; k >= 1; k--) {
            needed[k] = bodies[k].neededTorque();
            bodies[k].passLoad(bodies[bodies[k].parent]);
        }
    }

    private void fillColumn(int i) {
        unit[i] = 1;
        findNeeded(noGravity, rest, unit);
        unit[i] = 0;
        for (int j = 1; j <= count; j++) {
            entries[j][i] = needed[j];
        }
    }

    /** What the accelerations have to make up: each torque without the bias. */
    private void fillGaps() {
        findNeeded(gravity, speeds, rest);
        for (int k = 1; k <= count; k++) {
            gaps[k] = Field.minus(torques[k], needed[k]);
        }
    }

    /**
     * Clears what stands above the diagonal, from the last column on; false if a pivot is 0.
     * Pivot k is the determinant of the corner from k divided by that of the corner from k + 1,
     * so no pivot is 0 just when no corner's determinant is.
     */
    private boolean clearUpperEntries() {
        for (int k = count; k >= 1; k--) {
            if (entries[k][k] == 0) {
                return false;
            }
            inversePivots[k] = Field.inverse(entries[k][k]);
            for (int row = 1; row < k; row++) {
                takeFromRow(row, k, Field.times(entries[row][k], inversePivots[k]));
            }
        }
        return true;
    }

    private void takeFromRow(int row, int pivotRow, long factor) {
        for (int i = 1; i <= pivotRow; i++) {
            entries[row][i] = Field.minus(entries[row][i], Field.times(factor, entries[pivotRow][i]));
        }
        gaps[row] = Field.minus(gaps[row], Field.times(factor, gaps[pivotRow]));
    }

    private void solveAccelerations() {
        for (int k = 1; k <= count; k++) {
            long left = gaps[k];
            for (int i = 1; i < k; i++) {
                left = Field.minus(left, Field.times(entries[k][i], accelerations[i]));
            }
            accelerations[k] = Field.times(left, inversePivots[k]);
        }
    }

    /** The numbers: every argument and answer of these is 0 .. P - 1, but for what is told to 'of'. */
    private static final class Field {
        static final long P = 2147483647L;
        static final int BITS = 31;

        static long of(int told) {
            return Math.floorMod((long) told, P);
        }

        static long plus(long a, long b) {
            return (a + b) % P;
        }

        static long minus(long a, long b) {
            return (a - b + P) % P;
        }

        static long times(long a, long b) {
            return a * b % P;
        }

        /** The power P - 2, which is 1 / a as P is a prime; 0 for 0. */
        static long inverse(long a) {
            long result = 1;
            long power = a;
            for (int bit = 0; bit < BITS; bit++) {
                if (((P - 2) >> bit & 1) == 1) {
                    result = times(result, power);
                }
                power = times(power, power);
            }
            return result;
        }
    }

    /**
     * Three numbers. A vector that a method is given may be the one that it changes.
     * The sums here are kept below three products of numbers, as two fit into a long and three may not.
     */
    private static final class Vector {
        long x;
        long y;
        long z;

        Vector(long x, long y, long z) {
            this.x = x;
            this.y = y;
            this.z = z;
        }

        void tell(int toldX, int toldY, int toldZ) {
            x = Field.of(toldX);
            y = Field.of(toldY);
            z = Field.of(toldZ);
        }

        void clear() {
            x = 0;
            y = 0;
            z = 0;
        }

        void copy(Vector a) {
            x = a.x;
            y = a.y;
            z = a.z;
        }

        void add(Vector a) {
            x = (x + a.x) % Field.P;
            y = (y + a.y) % Field.P;
            z = (z + a.z) % Field.P;
        }

        void subtract(Vector a) {
            x = (x - a.x + Field.P) % Field.P;
            y = (y - a.y + Field.P) % Field.P;
            z = (z - a.z + Field.P) % Field.P;
        }

        void scale(long factor) {
            x = x * factor % Field.P;
            y = y * factor % Field.P;
            z = z * factor % Field.P;
        }

        void addTimes(Vector a, long factor) {
            x = (x + a.x * factor) % Field.P;
            y = (y + a.y * factor) % Field.P;
            z = (z + a.z * factor) % Field.P;
        }

        void becomeCross(Vector a, Vector b) {
            long crossX = Math.floorMod(a.y * b.z - a.z * b.y, Field.P);
            long crossY = Math.floorMod(a.z * b.x - a.x * b.z, Field.P);
            long crossZ = Math.floorMod(a.x * b.y - a.y * b.x, Field.P);
            x = crossX;
            y = crossY;
            z = crossZ;
        }

        long dot(Vector a) {
            return ((x * a.x + y * a.y) % Field.P + z * a.z) % Field.P;
        }

        long part(int axis) {
            return axis == 0 ? x : axis == 1 ? y : z;
        }
    }

    /** A rotation: the directions of a frame, which are its columns. A new one is that of the ground. */
    private static final class Frame {
        final Vector x = new Vector(1, 0, 0);
        final Vector y = new Vector(0, 1, 0);
        final Vector z = new Vector(0, 0, 1);
        final Vector old = new Vector(0, 0, 0);

        void copy(Frame a) {
            x.copy(a.x);
            y.copy(a.y);
            z.copy(a.z);
        }

        void turnAboutX(long t) {
            turnPair(y, z, t);
        }

        void turnAboutZ(long t) {
            turnPair(x, y, t);
        }

        /** From a and b to C a + S b and C b - S a: T does this with the last two columns, Z with the first two. */
        private void turnPair(Vector a, Vector b, long t) {
            long square = Field.times(t, t);
            long scale = Field.inverse(Field.plus(1, square));
            long cosine = Field.times(Field.minus(1, square), scale);
            long sine = Field.times(Field.plus(t, t), scale);
            old.copy(a);
            a.scale(cosine);
            a.addTimes(b, sine);
            b.scale(cosine);
            b.addTimes(old, Field.minus(0, sine));
        }

        /** From the frame's own numbers to the ground's. */
        void outward(Vector own, Vector result) {
            long ownX = own.x;
            long ownY = own.y;
            long ownZ = own.z;
            result.clear();
            result.addTimes(x, ownX);
            result.addTimes(y, ownY);
            result.addTimes(z, ownZ);
        }

        /** From the ground's numbers to the frame's own. */
        void inward(Vector grounds, Vector result) {
            long ownX = x.dot(grounds);
            long ownY = y.dot(grounds);
            long ownZ = z.dot(grounds);
            result.x = ownX;
            result.y = ownY;
            result.z = ownZ;
        }
    }

    /** A symmetric matrix, by its rows. */
    private static final class Inertia {
        final Vector rowX = new Vector(0, 0, 0);
        final Vector rowY = new Vector(0, 0, 0);
        final Vector rowZ = new Vector(0, 0, 0);

        void tellDiagonal(int xx, int yy, int zz) {
            rowX.x = Field.of(xx);
            rowY.y = Field.of(yy);
            rowZ.z = Field.of(zz);
        }

        void tellOthers(int xy, int xz, int yz) {
            rowX.y = Field.of(xy);
            rowY.x = Field.of(xy);
            rowX.z = Field.of(xz);
            rowZ.x = Field.of(xz);
            rowY.z = Field.of(yz);
            rowZ.y = Field.of(yz);
        }

        void applyTo(Vector a) {
            long newX = rowX.dot(a);
            long newY = rowY.dot(a);
            long newZ = rowZ.dot(a);
            a.x = newX;
            a.y = newY;
            a.z = newZ;
        }
    }

    /** The ground or a body: what was told of it, and behind that what follows, in the ground's frame. */
    private static final class Body {
        int parent;
        boolean slides;
        final Vector place = new Vector(0, 0, 0);
        long tilt;
        long mass;
        final Vector centre = new Vector(0, 0, 0);
        final Inertia inertia = new Inertia();

        final Frame frame = new Frame();
        final Vector origin = new Vector(0, 0, 0);
        /** s: from the parent's origin to this one. */
        final Vector offset = new Vector(0, 0, 0);
        /** e: from the origin to the centre. */
        final Vector lever = new Vector(0, 0, 0);
        /** The centre's place. */
        final Vector middle = new Vector(0, 0, 0);

        final Vector turning = new Vector(0, 0, 0);
        final Vector turningChange = new Vector(0, 0, 0);
        final Vector originAcceleration = new Vector(0, 0, 0);
        /** The force and the moment of this body and of all that hang on it; the moment about the ground's origin. */
        final Vector force = new Vector(0, 0, 0);
        final Vector moment = new Vector(0, 0, 0);
        final Vector spare = new Vector(0, 0, 0);

        void hangOn(int newParent, boolean newSlides) {
            parent = newParent;
            slides = newSlides;
        }

        /** The joint's axis: the third column of R(p) T is that of R too, as Z leaves it alone. */
        Vector axisVector() {
            return frame.z;
        }

        /** What 'where' tells: 0 the origin, 1 the centre's place, 2 the axis. */
        Vector answerVector(int which) {
            return which == 0 ? origin : which == 1 ? middle : axisVector();
        }

        void stand(Body on, long position) {
            frame.copy(on.frame);
            frame.turnAboutX(tilt);
            on.frame.outward(place, offset);
            if (slides) {
                offset.addTimes(axisVector(), position);
            } else {
                frame.turnAboutZ(position);
            }
            origin.copy(on.origin);
            origin.add(offset);
            frame.outward(centre, lever);
            middle.copy(origin);
            middle.add(lever);
        }

        /** For the ground: gravity counts as an acceleration of the ground against it. */
        void standAgainst(Vector pull) {
            originAcceleration.clear();
            originAcceleration.subtract(pull);
            force.clear();
            moment.clear();
        }

        void move(Body on, long speed, long acceleration) {
            turning.copy(on.turning);
            turningChange.copy(on.turningChange);
            on.accelerationAt(offset, originAcceleration);
            spare.becomeCross(on.turning, axisVector());
            spare.scale(speed);
            if (slides) {
                originAcceleration.addTimes(spare, 2);
                originAcceleration.addTimes(axisVector(), acceleration);
            } else {
                turning.addTimes(axisVector(), speed);
                turningChange.addTimes(axisVector(), acceleration);
                turningChange.add(spare);
            }
        }

        /** The acceleration of the body's point at an arm from its origin. */
        void accelerationAt(Vector arm, Vector result) {
            result.copy(originAcceleration);
            spare.becomeCross(turningChange, arm);
            result.add(spare);
            spare.becomeCross(turning, arm);
            spare.becomeCross(turning, spare);
            result.add(spare);
        }

        /** The body's own force and moment. */
        void load() {
            accelerationAt(lever, force);
            force.scale(mass);
            applyInertia(turningChange, moment);
            applyInertia(turning, spare);
            spare.becomeCross(turning, spare);
            moment.add(spare);
            spare.becomeCross(middle, force);
            moment.add(spare);
        }

        private void applyInertia(Vector a, Vector result) {
            frame.inward(a, result);
            inertia.applyTo(result);
            frame.outward(result, result);
        }

        long neededTorque() {
            if (slides) {
                return axisVector().dot(force);
            }
            spare.becomeCross(origin, force);
            return Field.minus(axisVector().dot(moment), axisVector().dot(spare));
        }

        void passLoad(Body on) {
            on.force.add(force);
            on.moment.add(moment);
        }
    }
}
