/** The boundary cases of promises 25 to 27, each under the sentence of the document that names it. */
public final class MoverEdgesTest {
    private static final Checks CHECKS = new Checks();

    /** Schema 0 at version 3: numbers a and b, and a turned to tens; an empty schema 1. */
    private static final String FIELDS = """
        schema
        add 0 a 0 10 no
        add 0 b 0 20 yes
        turn 0 a 2
        schema
        """;

    /** The same, with movers 0 up to 3, 1 down to 0 and 2 to 2, a form 0 for 3 that may write b, and row 0 at 2. */
    private static final String MOVERS = FIELDS + """
        mover 0 3
        mover 0 0
        mover 0 2
        form 0
        take 0 b yes
        row 0 2
        set 0 a 19
        """;

    private static void check(String about, String script) {
        Run.check(CHECKS, about, script);
    }

    private static void moverCount() {
        check("Movers are numbered from 0, at most 8", FIELDS + """
            step 0 = bounds
            undo 0 = bounds
            mover 0 0 = 0
            mover 1 0 = 1
            step 2 = bounds
            mover 0 1 = 2
            mover 0 2 = 3
            mover 0 3 = 4
            mover 0 3 = 5
            mover 1 0 = 6
            step 7 = bounds
            undo 7 = bounds
            mover 0 3 = 7
            step 7 = state
            row 0 1
            step 7 = 0
            mover 0 0 = state
            mover 1 0 = state
            undo 7 = 0
            step 0 = 0
            mover 0 0 = state
            mover 0 3 = state
            undo 0 = 0
            mover 2 0 = bounds
            mover -1 0 = bounds
            mover 0 4 = bounds
            mover 0 -1 = bounds
            mover 1 1 = bounds
            step 8 = bounds
            undo 8 = bounds
            """);
        check("mover: no such schema or version", FIELDS + """
            mover -1 0 = bounds
            mover 2 0 = bounds
            mover min 0 = bounds
            mover max 0 = bounds
            mover 0 -1 = bounds
            mover 0 4 = bounds
            mover 0 min = bounds
            mover 0 max = bounds
            mover 1 1 = bounds
            mover 0 0 = 0
            mover 0 3 = 1
            mover 1 0 = 2
            """);
        check("no such mover", MOVERS + """
            step -1 = bounds
            step 3 = bounds
            step 8 = bounds
            step min = bounds
            step max = bounds
            undo -1 = bounds
            undo 3 = bounds
            undo 8 = bounds
            undo min = bounds
            undo max = bounds
            """);
    }

    private static void step() {
        check("step: all rows are at its target: there are none, or those of another schema alone", FIELDS + """
            mover 0 3
            mover 1 0
            step 0 = state
            row 1 0
            step 0 = state
            step 1 = state
            row 0 3
            step 0 = state
            row 0 2
            step 0 = 2
            step 0 = state
            standing 0 = 0
            """);
        check("that with the greatest difference from it, of several the lowest, over one step towards it", FIELDS + """
            mover 0 1
            row 0 1
            row 0 2
            row 0 0
            row 0 3
            row 0 3
            step 0 = 3
            standing 3 = 20000
            step 0 = 4
            standing 4 = 20000
            step 0 = 1
            standing 1 = 10000
            step 0 = 2
            standing 2 = 10000
            step 0 = 3
            step 0 = 4
            step 0 = state
            standing 0 = 10000
            """);
    }

    private static void stepTargets() {
        check("a target stays, however the head goes on; each way as far as there are versions", """
            schema
            mover 0 0
            row 0 0
            add 0 a 0 5 yes
            mover 0 1
            step 0 = state
            step 1 = 0
            step 1 = state
            add 0 b 0 5 yes
            step 1 = state
            step 0 = 0
            step 0 = state
            standing 0 = 0
            """);
        check("a step goes with what is in the box", MOVERS + """
            step 0 = 0
            standing 0 = 30100
            replayed 0 a = 1
            step 0 = state
            step 2 = 0
            standing 0 = 20000
            replayed 0 a = 19
            step 2 = state
            step 1 = 0
            standing 0 = 10000
            step 1 = 0
            standing 0 = 100
            step 1 = state
            """);
    }

    private static void undoNothing() {
        check("undo: it has no step, or all are undone", MOVERS + """
            undo 0 = state
            undo 1 = state
            step 0 = 0
            undo 1 = state
            undo 0 = 0
            standing 0 = 20000
            undo 0 = state
            step 1 = 0
            step 1 = 0
            undo 0 = state
            undo 1 = 0
            standing 0 = 10000
            undo 1 = 0
            standing 0 = 20000
            undo 1 = state
            replayed 0 a = 19
            """);
    }

    private static void undoBehindChanges() {
        check("undo: the row was set, to the same value too", MOVERS + """
            step 0 = 0
            set 0 a 1 = 1
            undo 0 = state
            """);
        check("undo: the row was set, and moved since then: that can be undone, but no more", MOVERS + """
            step 1 = 0
            set 0 a 18 = 19
            step 1 = 0
            undo 1 = 0
            undo 1 = state
            standing 0 = 10000
            replayed 0 a = 18
            """);
        check("undo: the row was written, to the same value too", MOVERS + """
            step 0 = 0
            write 0 0 b 20 = 20
            undo 0 = state
            step 2 = 0
            undo 2 = 0
            undo 0 = state
            """);
        check("undo: neither set nor written by calls that threw", MOVERS + """
            step 0 = 0
            set 0 a 1000 = argument
            set 0 e 1 = bounds
            write 0 0 b -1 = argument
            write 0 0 a 1 = bounds
            take 0 a no
            write 0 0 a 1 = state
            step 0 = state
            undo 0 = 0
            standing 0 = 20000
            """);
    }

    private static void undoBehindOtherCalls() {
        check("undo: to be seen and read is no change, nor are steps of the schema", MOVERS + """
            step 0 = 0
            value 0 1 a = 19
            read 0 0 b = 20
            replayed 0 a = 1
            standing 0 = 30100
            add 0 c 0 0 no
            drop 0 a = yes
            renew 0
            undo 0 = 0
            standing 0 = 20000
            replayed 0 a = 19
            """);
        check("undo: another row is no matter", MOVERS + """
            row 0 2
            step 0 = 0
            set 1 a 5
            write 0 1 b 5
            undo 0 = 0
            step 0 = 0
            step 0 = 1
            undo 0 = 1
            set 1 a 6
            undo 0 = 0
            undo 0 = state
            """);
        check("undo: the last step of a mover alone, not one ahead of it", MOVERS + """
            row 0 2
            step 0 = 0
            step 0 = 1
            set 1 a 5
            undo 0 = state
            standing 0 = 30100
            """);
    }

    private static void undoBehindMoves() {
        check("undo: the row was moved by another mover, or all of that was undone", MOVERS + """
            step 0 = 0
            step 1 = 0
            undo 0 = state
            step 1 = 0
            undo 0 = state
            undo 1 = 0
            undo 0 = state
            undo 1 = 0
            standing 0 = 30100
            undo 0 = 0
            standing 0 = 20000
            undo 0 = state
            undo 1 = state
            """);
        check("undo: the row was moved back by another mover, which is no undoing", MOVERS + """
            step 0 = 0
            step 2 = 0
            standing 0 = 20000
            undo 0 = state
            undo 2 = 0
            undo 0 = 0
            """);
        check("undo: by turns", MOVERS + """
            step 0 = 0
            step 1 = 0
            step 0 = 0
            step 1 = 0
            undo 0 = state
            undo 1 = 0
            undo 1 = state
            undo 0 = 0
            undo 0 = state
            undo 1 = 0
            undo 0 = 0
            standing 0 = 20000
            undo 0 = state
            undo 1 = state
            """);
        check("undo: a set ahead of the move of another bars what was ahead of the set", MOVERS + """
            step 0 = 0
            set 0 a 5
            step 1 = 0
            undo 0 = state
            undo 1 = 0
            undo 0 = state
            standing 0 = 30100
            """);
        check("undo: a step done anew behind an undo can be undone", MOVERS + """
            step 0 = 0
            undo 0 = 0
            step 0 = 0
            undo 0 = 0
            undo 0 = state
            set 0 a 29
            step 0 = 0
            undo 0 = 0
            replayed 0 a = 29
            """);
    }

    private static void undoRestores() {
        check("the row is as it was ahead of the step, with values, box and losses", MOVERS + """
            step 0 = 0
            set 0 a 5
            step 1 = 0
            standing 0 = 20001
            replayed 0 a = 50
            undo 1 = 0
            standing 0 = 30100
            replayed 0 a = 5
            step 1 = 0
            standing 0 = 20001
            step 1 = 0
            standing 0 = 10001
            undo 1 = 0
            undo 1 = 0
            standing 0 = 30100
            """);
        StringBuilder script = new StringBuilder(Run.versions(24));
        script.append("row 0 23\nmover 0 0\nundo 0 = state\n");
        script.append("step 0 = 0\n".repeat(23)).append("step 0 = state\nstanding 0 = 2300\n");
        for (int done = 22; done >= 0; done--) {
            script.append("undo 0 = 0\nstanding 0 = " + (10000 * (23 - done) + 100 * done) + "\n");
        }
        script.append("undo 0 = state\n");
        check("all 23 steps are undone, and no more", script.toString());
    }

    public static void main(String[] args) {
        moverCount();
        step();
        stepTargets();
        undoNothing();
        undoBehindChanges();
        undoBehindOtherCalls();
        undoBehindMoves();
        undoRestores();
        CHECKS.end();
    }
}
