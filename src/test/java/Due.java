/** Counts answers against what is due, and tells each that is not. */
final class Due {
    private final String name;
    private int checked = 0;
    private int wrong = 0;

    Due(String name) {
        this.name = name;
    }

    void due(String call, long got, long want) {
        checked++;
        if (got == want) return;
        wrong++;
        if (wrong <= 40) System.out.println(call + " answered " + got + ", due is " + want);
    }

    void holds(String what, boolean it) {
        due(what, it ? 1 : 0, 1);
    }

    /** Ends the program with exit code 1 if one answer was wrong, or if nothing was asked. */
    void close() {
        System.out.println(name + ": " + checked + " answers, " + wrong + " not as due");
        if (wrong != 0 || checked == 0) System.exit(1);
    }

    /** THE TEXT is this one then; in few calls, as an object stands for 512 alone. */
    static void tell(StepsShared x, String text) {
        x.wipe();
        for (int i = 0; i < text.length(); i += 8) {
            int n = Math.min(8, text.length() - i);
            long v = 0;
            for (int k = 0; k < n; k++) v = v << 8 | text.charAt(i + k);
            x.write(n, v);
        }
    }

    static StepsShared dayOf(String text) {
        StepsShared x = new StepsShared();
        tell(x, text);
        if (x.day() < 0) throw new IllegalStateException("no day: " + text);
        return x;
    }
}
