/** Counts and prints the answers that are not as due. */
final class Check {
    private static int wrong = 0;
    private static int asked = 0;

    interface Call {
        Object answer();
    }

    private Check() {
    }

    static void same(String call, Object got, Object due) {
        asked++;
        if (!due.equals(got)) {
            wrong++;
            System.out.println(call + " answered " + got + ", due is " + due);
        }
    }

    /** The class must be the very one that the document names, not one below it. */
    static void refused(String call, Class<?> due, Call made) {
        same(call, outcome(made), "throws." + due.getSimpleName());
    }

    /** What a call answers, or throws.Name when it throws. */
    static Object outcome(Call made) {
        try {
            return made.answer();
        } catch (RuntimeException e) {
            return "throws." + e.getClass().getSimpleName();
        }
    }

    static void end() {
        System.out.println(asked + " answers, " + wrong + " not as due");
        if (wrong != 0 || asked == 0) {
            System.exit(1);
        }
    }
}
