/** Counts and prints the answers that are not due. */
final class Check {
    static final int P = 2147483647;

    private int wrong = 0;

    void due(String what, long got, long want) {
        if (got != want) {
            wrong++;
            System.out.println(what + " answered " + got + ", due is " + want);
        }
    }

    void due(String what, boolean got, boolean want) {
        due(what, got ? 1 : 0, want ? 1 : 0);
    }

    /** The number that is a / b. */
    static long part(long a, long b) {
        java.math.BigInteger p = java.math.BigInteger.valueOf(P);
        java.math.BigInteger one = java.math.BigInteger.valueOf(b).modInverse(p);
        return java.math.BigInteger.valueOf(a).multiply(one).mod(p).longValue();
    }

    /** The number that an int is. */
    static long number(long a) {
        return Math.floorMod(a, (long) P);
    }

    void end() {
        System.out.println(wrong == 0 ? "all answers are as due" : wrong + " answers are not as due");
        if (wrong != 0) {
            System.exit(1);
        }
    }
}
