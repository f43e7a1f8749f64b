import java.util.ArrayList;
import java.util.List;

/** All that an object answers, to be held against what another one answers, or the same one later. */
final class Answers {
    private final List<String> calls = new ArrayList<>();
    private final List<Integer> values = new ArrayList<>();

    private Answers() {
    }

    private void add(String call, int value) {
        calls.add(call);
        values.add(value);
    }

    /** The answers that do not tell of the accelerations: 10 for each body and 1 for each pair, and 5. */
    static Answers withoutAccelerations(LimbWorks x, int bodies) {
        Answers all = new Answers();
        for (int j = 1; j <= bodies; j++) {
            all.add("bias(" + j + ")", x.bias(j));
            for (int i = 1; i <= bodies; i++) {
                all.add("matrix(" + j + ", " + i + ")", x.matrix(j, i));
            }
            for (int what = 0; what <= 8; what++) {
                all.add("where(" + j + ", " + what + ")", x.where(j, what));
            }
        }
        all.add("energy()", x.energy());
        for (int axis = 0; axis <= 3; axis++) {
            all.add("weight(" + axis + ")", x.weight(axis));
        }
        return all;
    }

    /** All answers of calls that change nothing: 12 for each body, 1 for each pair, and 5. */
    static Answers asItIs(LimbWorks x, int bodies) {
        Answers all = withoutAccelerations(x, bodies);
        for (int j = 1; j <= bodies; j++) {
            all.add("needs(" + j + ")", x.needs(j));
            all.add("acceleration(" + j + ")", x.acceleration(j));
        }
        return all;
    }

    /** Those, and then what forward makes of the torques, which nothing else shows. */
    static Answers andForward(LimbWorks x, int bodies) {
        Answers all = asItIs(x, bodies);
        all.add("forward()", x.forward());
        for (int j = 1; j <= bodies; j++) {
            all.add("acceleration(" + j + ") after forward()", x.acceleration(j));
        }
        return all;
    }

    void dueAs(Check check, String what, Answers want) {
        check.due(what + ": as many answers", values.size(), want.values.size());
        for (int k = 0; k < values.size() && k < want.values.size(); k++) {
            check.due(what + ": " + calls.get(k), values.get(k), want.values.get(k));
        }
    }

    void dueNumbers(Check check, String what) {
        for (int k = 0; k < values.size(); k++) {
            int value = values.get(k);
            check.due(what + ": " + calls.get(k) + " is 0 .. P - 1 (" + value + ")", value >= 0 && value < Check.P, true);
        }
    }
}
