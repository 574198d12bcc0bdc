/** Counts the answers that are not the ones that are due, and ends a test by them. */
final class Due {
    private int checked;
    private int wrong;

    void is(String call, int got, int want) {
        checked++;
        if (got != want) {
            wrong++;
            System.out.println(call + " answered " + got + ", due is " + want);
        }
    }

    void holds(String what, boolean holds) {
        is(what, holds ? 1 : 0, 1);
    }

    /** What has() tells of a type, up to its NONE. */
    void has(String what, ReferenceRules x, int t, int... numbers) {
        for (int i = 0; i < numbers.length; i++) {
            is(what + ": has(" + t + ", " + i + ")", x.has(t, i), numbers[i]);
        }
        is(what + ": has(" + t + ", " + numbers.length + ")", x.has(t, numbers.length), ReferenceRules.NONE);
    }

    void end() {
        System.out.println(checked + " answers, " + wrong + " wrong");
        if (wrong != 0) {
            System.exit(1);
        }
    }
}
