/** Counts checks, prints those that fail, and ends the program with 1 if there was one. */
final class Due {

    static final Class<IndexOutOfBoundsException> INDEX = IndexOutOfBoundsException.class;
    static final Class<IllegalArgumentException> ARGUMENT = IllegalArgumentException.class;
    static final Class<IllegalStateException> STATE = IllegalStateException.class;
    /** The ends of int. */
    static final int LOW = Integer.MIN_VALUE;
    static final int HIGH = Integer.MAX_VALUE;

    interface Call {
        double answer();
    }

    private final String title;
    private int passed;
    private int failed;

    Due(String title) {
        this.title = title;
    }

    void same(String call, double got, double want) {
        // The bits, so that 0.0 and -0.0 differ and NaN equals itself.
        judge(Double.doubleToLongBits(got) == Double.doubleToLongBits(want),
                call + " answered " + got + ", due is " + want);
    }

    void sameLong(String call, long got, long want) {
        judge(got == want, call + " answered " + got + ", due is " + want);
    }

    void sameText(String call, String got, String want) {
        judge(got.equals(want), call + " gave " + got + ", due is " + want);
    }

    void holds(String what, boolean right) {
        judge(right, what);
    }

    void throwsIt(String call, Class<? extends RuntimeException> want, Call run) {
        try {
            double got = run.answer();
            judge(false, call + " answered " + got + ", due is " + want.getName());
        } catch (RuntimeException e) {
            judge(e.getClass() == want, call + " threw " + e + ", due is " + want.getName());
        }
    }

    private void judge(boolean right, String message) {
        if (right) {
            passed++;
            return;
        }
        failed++;
        if (failed <= 40) {
            System.out.println(title + ": " + message);
        }
    }

    void end() {
        System.out.println(title + ": " + passed + " checks hold, " + failed + " do not");
        if (failed != 0) {
            System.exit(1);
        }
    }
}
