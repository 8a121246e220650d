/** Counts and prints the calls whose answers are not the ones that are due. */
final class Checks {
    static final Class<? extends RuntimeException> BOUNDS = IndexOutOfBoundsException.class;
    static final Class<? extends RuntimeException> ARGUMENT = IllegalArgumentException.class;
    static final Class<? extends RuntimeException> STATE = IllegalStateException.class;

    interface Call {
        long answer();
    }

    private int calls;
    private int wrong;

    /** The class itself must be the one that is named: what the machine throws are subclasses. */
    static String outcome(Call call) {
        try {
            return Long.toString(call.answer());
        } catch (RuntimeException e) {
            return e.getClass().getName();
        }
    }

    void same(String what, String got, String want) {
        calls++;
        if (!got.equals(want)) {
            wrong++;
            System.out.println(what + " answered " + got + ", due is " + want);
        }
    }

    void due(String what, long want, Call call) {
        same(what, outcome(call), Long.toString(want));
    }

    void fails(String what, Class<? extends RuntimeException> want, Call call) {
        same(what, outcome(call), want.getName());
    }

    static long yes(boolean answer) {
        return answer ? 1 : 0;
    }

    /** The text of a step, read up to the first place that does not exist. */
    static String wordsOf(FieldMigrator migrator, int schema, int version) {
        StringBuilder words = new StringBuilder();
        while (words.length() < 100) {
            try {
                words.append(migrator.text(schema, version, words.length()));
            } catch (IndexOutOfBoundsException e) {
                break;
            }
        }
        return words.toString();
    }

    boolean isRight() {
        return wrong == 0;
    }

    void end() {
        System.out.println(calls + " calls, " + wrong + " of them wrong");
        if (wrong != 0 || calls == 0) {
            System.exit(1);
        }
    }
}
