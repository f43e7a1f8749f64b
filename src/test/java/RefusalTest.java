/**
 * 'Calls with bodies that are not there are refused, changing nothing', and the other refusals of the document.
 * Each refused call is made on one of two equal objects; what both answer later shows that nothing was changed.
 */
public final class RefusalTest {
    private static final int NONE = Calls.NONE;
    private static final int MIN = Calls.MIN;
    private static final int MAX = Calls.MAX;
    private static final int MOST = Calls.MOST_BODIES;
    private static final Check CHECK = new Check();
    private static final int[] NO_WHATS = {-1, -2, -8, -9, 9, 10, 11, 17, 18, MIN, MIN + 3, MAX, MAX - 1};
    private static final int[] NO_AXES = {-1, -2, -3, -4, 4, 5, 6, 7, 8, MIN, MIN + 3, MAX, MAX - 1};

    public static void main(String[] args) {
        for (int bodies = 0; bodies <= MOST; bodies++) {
            for (int kind = 0; kind < Calls.TELLS.length; kind++) {
                tellOfNoBody(bodies, kind);
            }
            for (int kind = 0; kind < Calls.ASKS.length; kind++) {
                askOfNoBody(bodies, kind);
            }
            noSuchParent(bodies);
            for (int what : NO_WHATS) {
                noSuchWhat(bodies, what);
            }
            whereIsNoBody(bodies);
            noSuchAxis(bodies);
        }
        sevenAreThere();
        askingChangesNothing();
        CHECK.end();
    }

    private static void due(String what, long got, long want) {
        CHECK.due(what, got, want);
    }

    /** The ground, negative numbers, the numbers behind the last body, and far ones. */
    private static int[] noBodies(int bodies) {
        return new int[] {
            0, -1, -2, -7, -8, bodies + 1, bodies + 2, MOST + 1, MOST + 2, 16, 256, 1 << 16, MIN, MIN + 1, MAX, MAX - 1
        };
    }

    private static void tellOfNoBody(int bodies, int kind) {
        LimbWorks x = Calls.make(bodies);
        String name = Calls.TELLS[kind] + " of ";
        for (int body : noBodies(bodies)) {
            CHECK.due(name + body + ", " + bodies + " there", Calls.tell(x, kind, body, new int[] {3, 4, 5}), false);
        }
        dueUnchanged("refused " + name + "no body, " + bodies + " there", x, bodies, kind);
    }

    private static void askOfNoBody(int bodies, int kind) {
        LimbWorks x = Calls.make(bodies);
        String name = Calls.ASKS[kind] + " of ";
        for (int body : noBodies(bodies)) {
            for (int there = Math.min(bodies, 1); there <= bodies; there += MOST - 1) {
                due(name + body + ", " + bodies + " there", Calls.ask(x, kind, body, there), NONE);
            }
        }
        dueUnchanged("refused " + name + "no body, " + bodies + " there", x, bodies, Calls.NO_TELL);
    }

    /** Promise 2: 'NONE when there is no such parent'. */
    private static void noSuchParent(int bodies) {
        LimbWorks x = Calls.make(bodies);
        for (int parent : noBodies(bodies)) {
            if (parent != 0) {
                due("body on " + parent + ", " + bodies + " there", x.body(parent, false), NONE);
                due("sliding body on " + parent + ", " + bodies + " there", x.body(parent, true), NONE);
            }
        }
        dueUnchanged("refused body, " + bodies + " there", x, bodies, Calls.NO_TELL);
    }

    /** Promise 18: 'NONE also for another what', of bodies that are there and of those that are not. */
    private static void noSuchWhat(int bodies, int what) {
        LimbWorks x = Calls.make(bodies);
        for (int body = 0; body <= bodies + 1; body++) {
            due("where(" + body + ", " + what + "), " + bodies + " there", x.where(body, what), NONE);
        }
        dueUnchanged("refused where, what " + what + ", " + bodies + " there", x, bodies, Calls.NO_TELL);
    }

    /** For none of the whats from 0 to 8 has the ground, or a body that is not there, an answer. */
    private static void whereIsNoBody(int bodies) {
        LimbWorks x = Calls.make(bodies);
        for (int what = 0; what <= 8; what++) {
            due("where(0, " + what + "), " + bodies + " there", x.where(0, what), NONE);
            due("where(" + (bodies + 1) + ", " + what + ")", x.where(bodies + 1, what), NONE);
        }
        dueUnchanged("refused where, " + bodies + " there", x, bodies, Calls.NO_TELL);
    }

    /** Promise 19: 'NONE for another axis'. */
    private static void noSuchAxis(int bodies) {
        LimbWorks x = Calls.make(bodies);
        for (int axis : NO_AXES) {
            due("weight(" + axis + "), " + bodies + " there", x.weight(axis), NONE);
        }
        dueUnchanged("refused weight, " + bodies + " there", x, bodies, Calls.NO_TELL);
    }

    /** Promise 2: 'NONE when seven are there', on parents that are there and on those that are not. */
    private static void sevenAreThere() {
        LimbWorks x = Calls.make(MOST);
        for (int parent = -1; parent <= MOST + 1; parent++) {
            due("an eighth body on " + parent, x.body(parent, false), NONE);
            due("an eighth body, sliding, on " + parent, x.body(parent, true), NONE);
        }
        CHECK.due("the seventh is there", x.torque(7, Calls.scattered(7, 7)[0]), true);
        CHECK.due("the eighth is not", x.torque(8, 1), false);
        dueUnchanged("refused eighth body", x, MOST, Calls.NO_TELL);
    }

    /**
     * The object against a new one without the refused calls: as it is; then with one body more, new and later told
     * all but what the refused calls told, so that what they may have left behind would be seen.
     */
    private static void dueUnchanged(String what, LimbWorks x, int bodies, int leftOut) {
        LimbWorks y = Calls.make(bodies);
        dueSame(what, Answers.andForward(x, bodies), Answers.andForward(y, bodies));
        if (bodies == MOST) {
            return;
        }
        int next = bodies + 1;
        due(what + ", the next number", Calls.hang(x, next), next);
        Calls.hang(y, next);
        dueSame(what + ", a body more", Answers.asItIs(x, next), Answers.asItIs(y, next));
        Calls.tellAllBut(x, next, leftOut);
        Calls.tellAllBut(y, next, leftOut);
        dueSame(what + ", a body more, told", Answers.andForward(x, next), Answers.andForward(y, next));
    }

    private static void dueSame(String what, Answers got, Answers want) {
        got.dueAs(CHECK, what, want);
    }

    /** The calls that answer and are not said to change anything leave all as it is. */
    private static void askingChangesNothing() {
        LimbWorks x = Calls.make(MOST);
        Answers first = Answers.asItIs(x, MOST);
        dueSame("asked twice", Answers.asItIs(x, MOST), first);
        dueSame("asked thrice", Answers.andForward(x, MOST), Answers.andForward(Calls.make(MOST), MOST));
    }
}
