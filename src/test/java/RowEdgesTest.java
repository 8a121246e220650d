/** The boundary cases of promises 20 to 24 and of moving rows, each under the sentence that names it. */
public final class RowEdgesTest {
    private static final Checks CHECKS = new Checks();

    /** Schema 0 at version 4: a needed number a, a number b, a flag c, needed tens d; an empty schema 1; row 0 at 4. */
    private static final String FIELDS = """
        schema
        add 0 a 0 10 yes
        add 0 b 0 20 no
        add 0 c 1 1 no
        add 0 d 2 30 yes
        schema
        row 0 4
        """;

    private static void check(String about, String script) {
        Run.check(CHECKS, about, script);
    }

    private static void rowCount() {
        StringBuilder script = new StringBuilder("schema\nschema\nadd 0 a 0 0 no\nadd 1 a 0 0 no\nstanding 0 = bounds\n");
        for (int row = 0; row < 20; row++) {
            script.append("standing " + row + " = bounds\n");
            script.append("row " + row % 2 + " 1 = " + row + "\n");
            script.append("standing " + row + " = 10000\n");
            script.append("set " + row + " a " + (100 + row) + " = -1\n");
        }
        check("Rows are numbered from 0, at most 20", script + """
            row 0 0 = state
            row 1 1 = state
            standing 20 = bounds
            row 2 0 = bounds
            row -1 0 = bounds
            row 0 2 = bounds
            row 0 -1 = bounds
            standing 19 = 10000
            value 0 1 a = 100
            value 19 1 a = 119
            """);
    }

    private static void rowNumbers() {
        for (String call : new String[] {"read 0 %s a", "write 0 %s a 1", "set %s a 1", "value %s 1 a",
            "replayed %s a", "standing %s"}) {
            StringBuilder script = new StringBuilder("schema\nadd 0 a 0 5 no\nform 0\ntake 0 a yes\n");
            for (String row : new String[] {"-1", "0", "19", "20", "min", "max"}) {
                script.append(call.formatted(row)).append(" = bounds\n");
            }
            script.append("row 0 1\n");
            script.append(call.formatted("1")).append(" = bounds\n");
            script.append(call.formatted("0")).append('\n');
            check("no such row: " + call, script.toString());
        }
    }

    private static void row() {
        check("row: no such schema or version", FIELDS + """
            row -1 0 = bounds
            row 2 0 = bounds
            row min 0 = bounds
            row max 0 = bounds
            row 0 -1 = bounds
            row 0 5 = bounds
            row 0 min = bounds
            row 0 max = bounds
            row 1 1 = bounds
            row 0 0 = 1
            row 0 4 = 2
            row 1 0 = 3
            """);
        check("with the defaults for needed fields, and no value for others", FIELDS + """
            toggleNeed 0 a
            toggleNeed 0 b
            row 0 5
            row 0 6
            value 0 4 a = 10
            value 0 4 b = -1
            value 0 4 c = -1
            value 0 4 d = 30
            standing 0 = 40000
            value 1 5 a = -1
            value 1 5 b = -1
            standing 1 = 50000
            value 2 6 a = -1
            value 2 6 b = 20
            value 2 6 d = 30
            standing 2 = 60000
            """);
    }

    private static void set() {
        check("set: no such field in the version of the row", FIELDS + """
            set 0 e 1 = bounds
            set 0 -1 1 = bounds
            set 0 26 1 = bounds
            set 0 min 1 = bounds
            set 0 max 1 = bounds
            rename 0 a e
            set 0 e 1 = bounds
            set 0 a 1 = 10
            row 0 0
            set 1 a 1 = bounds
            row 0 5
            set 2 a 1 = bounds
            set 2 e 1 = 10
            """);
        check("set: a value of a number", FIELDS + """
            set 0 a 10000 = argument
            set 0 a -2 = argument
            set 0 a min = argument
            set 0 a max = argument
            set 0 b 10000 = argument
            set 0 b -2 = argument
            set 0 b min = argument
            set 0 b max = argument
            set 0 a 9999 = 10
            set 0 a 0 = 9999
            set 0 b 9999 = -1
            set 0 b 0 = 9999
            """);
        check("set: a value of a flag", FIELDS + """
            set 0 c 2 = argument
            set 0 c -2 = argument
            set 0 c min = argument
            set 0 c max = argument
            set 0 c 1 = -1
            set 0 c 0 = 1
            """);
        check("set: a value of tens", FIELDS + """
            set 0 d 1000 = argument
            set 0 d -2 = argument
            set 0 d min = argument
            set 0 d max = argument
            set 0 d 999 = 30
            set 0 d 0 = 999
            """);
    }

    private static void setNone() {
        check("set: or -1 for none, if it is not needed there", FIELDS + """
            toggleNeed 0 a
            toggleNeed 0 b
            row 0 6
            set 0 a -1 = argument
            set 0 d -1 = argument
            set 0 b -1 = -1
            set 0 b 5 = -1
            set 0 b -1 = 5
            set 0 c -1 = -1
            set 1 a -1 = -1
            set 1 b -1 = argument
            set 1 d -1 = argument
            value 1 6 a = -1
            """);
        check("set: no such row or field, and value is out of range", FIELDS + """
            set 1 a 10000 = bounds
            set -1 a -1 = bounds
            set 0 e -2 = bounds
            set 0 26 10000 = bounds
            """);
    }

    private static void value() {
        check("value: version: 0 to the head of its schema", FIELDS + """
            add 1 a 0 0 no
            value 0 0 a = bounds
            value 0 1 a = 10
            value 0 4 d = 30
            value 0 5 d = bounds
            value 0 -1 a = bounds
            value 0 min a = bounds
            value 0 max a = bounds
            row 1 0
            value 1 2 a = bounds
            value 1 1 a = 0
            """);
        check("value: name: that of a field of the version", FIELDS + """
            rename 0 a e
            value 0 4 e = bounds
            value 0 5 a = bounds
            value 0 5 e = 10
            value 0 4 a = 10
            value 0 3 d = bounds
            value 0 4 -1 = bounds
            value 0 4 26 = bounds
            value 0 4 min = bounds
            value 0 4 max = bounds
            """);
        check("the row stays as it is, however it is seen", """
            schema
            add 0 a 0 5 no
            turn 0 a 2
            add 0 b 0 5 no
            row 0 2
            set 0 a 7
            value 0 0 a = bounds
            value 0 1 a = 70
            value 0 3 a = 7
            value 0 3 b = 5
            value 0 1 a = 70
            value 0 2 a = 7
            standing 0 = 20000
            """);
    }

    private static void replayed() {
        check("replayed: no such field in the version of the row", FIELDS + """
            replayed 0 a = 10
            replayed 0 b = -1
            replayed 0 e = bounds
            replayed 0 -1 = bounds
            replayed 0 26 = bounds
            replayed 0 min = bounds
            replayed 0 max = bounds
            rename 0 a e
            replayed 0 e = bounds
            replayed 0 a = 10
            row 0 0
            replayed 1 a = bounds
            """);
        check("replayed: by all that was set, written, moved and undone, or by nothing", """
            schema
            add 0 a 0 15 yes
            form 0
            take 0 a yes
            turn 0 a 2
            row 0 1
            mover 0 2
            replayed 0 a = 15
            set 0 a 29
            replayed 0 a = 29
            step 0 = 0
            replayed 0 a = 2
            undo 0 = 0
            replayed 0 a = 29
            step 0 = 0
            write 0 0 a 38 = 29
            replayed 0 a = 3
            set 0 a 4
            replayed 0 a = 4
            mover 0 1
            step 1 = 0
            replayed 0 a = 40
            undo 1 = 0
            replayed 0 a = 4
            standing 0 = 20100
            """);
    }

    private static int turned(int from, int to, int value) {
        if (value == -1) {
            return -1;
        }
        if (to == 1) {
            return value > 0 ? 1 : 0;
        }
        if (from == 0) {
            return value / 10;
        }
        return from == 2 ? value * 10 : value;
    }

    /** Turn, with -1 for -1, up; and down: as up, from the kind behind to that in front. */
    private static void turns() {
        int[][] values = {{-1, 0, 1, 9, 10, 11, 99, 9989, 9990, 9999}, {-1, 0, 1}, {-1, 0, 1, 9, 10, 998, 999}};
        for (int from = 0; from < 3; from++) {
            for (int to = 0; to < 3; to++) {
                if (from == to) {
                    continue;
                }
                StringBuilder up = new StringBuilder("schema\nadd 0 a " + from + " 0 no\nturn 0 a " + to + "\nrow 0 1\n");
                StringBuilder down = new StringBuilder("schema\nadd 0 a " + to + " 0 no\nturn 0 a " + from + "\nrow 0 2\n");
                for (int value : values[from]) {
                    up.append("set 0 a " + value + "\nvalue 0 2 a = " + turned(from, to, value) + "\n");
                    down.append("set 0 a " + value + "\nvalue 0 1 a = " + turned(from, to, value) + "\n");
                }
                check("the way up over turn " + from + " to " + to, up.toString());
                check("the way down over turn " + to + " to " + from, down.toString());
            }
        }
    }

    /** A number and its parts by a divisor or factor. */
    private static void parts() {
        int[][] cases = {
            {-1, 2, -1, -1}, {0, 2, 0, 0}, {1, 2, 0, 1}, {2, 2, 1, 0}, {9999, 2, 4999, 1}, {9998, 2, 4999, 0},
            {99, 100, 0, 99}, {100, 100, 1, 0}, {101, 100, 1, 1}, {9999, 100, 99, 99}, {9900, 100, 99, 0},
            {9, 10, 0, 9}, {10, 10, 1, 0}, {19, 10, 1, 9}, {-1, 100, -1, -1},
        };
        for (int[] c : cases) {
            check("Split up: the number divided by the divisor, and the remainder", "schema\nadd 0 a 0 5 no\n"
                + "split 0 a b c " + c[1] + "\nrow 0 1\nset 0 a " + c[0] + "\n"
                + "value 0 2 b = " + c[2] + "\nvalue 0 2 c = " + c[3] + "\n");
            check("Join down: the number divided by the factor, and the remainder", "schema\nadd 0 b 0 5 no\n"
                + "add 0 c 0 6 no\njoin 0 b c a " + c[1] + "\nrow 0 3\nset 0 a " + c[0] + "\n"
                + "value 0 2 b = " + c[2] + "\nvalue 0 2 c = " + c[3] + "\n");
        }
    }

    private static void wholes() {
        int[][] cases = {
            {-1, -1, 10, -1}, {-1, 0, 10, -1}, {0, -1, 10, -1}, {-1, 9999, 100, -1}, {9999, -1, 100, -1},
            {0, 0, 2, 0}, {0, 1, 2, 1}, {1, 0, 2, 2}, {4999, 1, 2, 9999}, {4999, 0, 2, 9998}, {4999, 2, 2, 9999},
            {5000, 0, 2, 9999}, {99, 99, 100, 9999}, {99, 98, 100, 9998}, {99, 100, 100, 9999}, {100, 0, 100, 9999},
            {0, 9999, 100, 9999}, {1, 9899, 100, 9999}, {1, 9898, 100, 9998}, {9999, 9999, 100, 9999},
        };
        for (int[] c : cases) {
            check("Join up: at most 9999; -1 if one of both is -1", "schema\nadd 0 b 0 5 no\nadd 0 c 0 6 no\n"
                + "join 0 b c a " + c[2] + "\nrow 0 2\nset 0 b " + c[0] + "\nset 0 c " + c[1] + "\n"
                + "value 0 3 a = " + c[3] + "\n");
            check("Split down: at most 9999; -1 if one of both is -1", "schema\nadd 0 a 0 5 no\n"
                + "split 0 a b c " + c[2] + "\nrow 0 2\nset 0 b " + c[0] + "\nset 0 c " + c[1] + "\n"
                + "value 0 1 a = " + c[3] + "\n");
        }
    }

    private static void addAndDrop() {
        check("Add up: the default, needed or not; down: nothing", """
            schema
            add 0 a 0 9999 yes
            add 0 b 2 999 no
            add 0 c 1 0 no
            row 0 0
            value 0 1 a = 9999
            value 0 3 b = 999
            value 0 3 c = 0
            row 0 3
            value 1 0 a = bounds
            value 1 2 c = bounds
            value 1 2 b = -1
            """);
        check("Drop up: nothing; down: -1, or the default for a needed one", """
            schema
            add 0 a 0 9999 yes
            add 0 b 2 999 no
            drop 0 a
            drop 0 b
            row 0 4
            value 0 3 b = -1
            value 0 2 a = 9999
            value 0 2 b = -1
            value 0 4 a = bounds
            """);
    }

    private static void needs() {
        check("Need: the same, or the default in place of -1 where it is needed, up and down", """
            schema
            add 0 a 0 42 no
            toggleNeed 0 a
            toggleNeed 0 a
            row 0 1
            row 0 2
            row 0 3
            value 0 2 a = 42
            value 1 1 a = 42
            value 1 3 a = 42
            value 2 2 a = 42
            value 2 1 a = 42
            set 0 a 0
            set 1 a 0
            set 2 a 0
            value 0 2 a = 0
            value 0 3 a = 0
            value 1 1 a = 0
            value 1 3 a = 0
            value 2 2 a = 0
            value 2 1 a = 0
            """);
    }

    private static void needsOfJoin() {
        check("the default of a joined field in place of -1, if one of both was needed", """
            schema
            add 0 a 0 12 yes
            add 0 b 0 34 no
            join 0 a b c 100
            add 0 d 0 56 no
            add 0 e 0 78 yes
            join 0 d e f 100
            row 0 2
            row 0 5
            value 0 3 c = 1234
            value 1 6 f = 5678
            set 0 b 0
            value 0 3 c = 1200
            set 1 d 0
            value 1 6 f = 78
            """);
        check("and none, if none of both was", """
            schema
            add 0 a 0 12 no
            add 0 b 0 34 no
            join 0 a b c 100
            row 0 2
            set 0 a 5
            value 0 3 c = -1
            """);
    }

    private static void box() {
        check("a box, empty at first, and a number of losses, 0 at first", """
            schema
            add 0 a 0 5 no
            row 0 0
            row 0 1
            standing 0 = 0
            standing 1 = 10000
            """);
        check("nothing is put into the box, if the other way tells of it", """
            schema
            add 0 a 0 5 no
            split 0 a b c 100
            row 0 1
            row 0 2
            set 0 a 9999
            set 1 b 99
            set 1 c 99
            mover 0 2
            mover 0 1
            step 0 = 0
            standing 0 = 20000
            step 1 = 0
            standing 0 = 10000
            step 1 = 1
            standing 1 = 10000
            """);
        check("what is left is put into the box, and taken out if the other way tells of what is left", """
            schema
            add 0 a 0 5 no
            split 0 a b c 100
            row 0 2
            set 0 b 99
            set 0 c 100
            mover 0 1
            mover 0 2
            step 0 = 0
            standing 0 = 10100
            value 0 1 a = 9999
            value 0 2 b = 99
            value 0 2 c = 100
            step 1 = 0
            standing 0 = 20000
            value 0 2 c = 100
            step 0 = 0
            set 0 a 9998
            step 1 = 0
            standing 0 = 20001
            value 0 2 b = 99
            value 0 2 c = 98
            step 0 = 0
            standing 0 = 10001
            """);
    }

    private static void boxWithNone() {
        check("one of both values is none", """
            schema
            add 0 a 0 5 no
            split 0 a b c 100
            row 0 2
            set 0 c 7
            mover 0 1
            mover 0 2
            step 0 = 0
            standing 0 = 10100
            value 0 1 a = -1
            step 1 = 0
            standing 0 = 20000
            value 0 2 b = -1
            value 0 2 c = 7
            step 0 = 0
            set 0 a -1
            value 0 2 c = 7
            set 0 a 0
            value 0 2 c = 0
            step 1 = 0
            standing 0 = 20001
            """);
        check("the same value, set anew, is no loss", """
            schema
            add 0 a 0 5 no
            turn 0 a 2
            row 0 1
            set 0 a 19
            mover 0 2
            mover 0 1
            step 0 = 0
            standing 0 = 20100
            set 0 a 2
            set 0 a 1
            step 1 = 0
            standing 0 = 10000
            value 0 1 a = 19
            """);
    }

    private static void boxOfDropAndAdd() {
        check("Drop leaves its value in the box, if it is no default of a needed one, nor none of another", """
            schema
            add 0 a 0 5 yes
            add 0 b 0 6 no
            drop 0 a
            drop 0 b
            row 0 2
            row 0 2
            row 0 2
            set 1 a 6
            set 2 b 6
            mover 0 4
            step 0 = 0
            step 0 = 1
            step 0 = 2
            step 0 = 0
            step 0 = 1
            step 0 = 2
            standing 0 = 40000
            standing 1 = 40100
            standing 2 = 40100
            value 1 2 a = 6
            value 2 2 b = 6
            """);
        check("Add down leaves its value in the box, if it is no default", """
            schema
            add 0 a 0 5 yes
            add 0 b 0 6 no
            row 0 2
            row 0 2
            row 0 2
            set 0 b 6
            set 1 a 6
            mover 0 0
            step 0 = 0
            step 0 = 1
            step 0 = 2
            step 0 = 0
            step 0 = 1
            step 0 = 2
            standing 0 = 0
            standing 1 = 200
            standing 2 = 100
            value 1 2 a = 6
            value 1 2 b = -1
            value 2 2 b = -1
            """);
    }

    private static void boxOfRenameAndNeed() {
        check("Rename leaves nothing and reaches nothing", """
            schema
            add 0 a 0 5 no
            rename 0 a b
            rename 0 b a
            row 0 1
            set 0 a 7
            mover 0 3
            step 0 = 0
            standing 0 = 20000
            value 0 2 b = 7
            step 0 = 0
            standing 0 = 30000
            value 0 3 a = 7
            """);
        check("need has its field in front and behind", """
            schema
            add 0 a 0 42 no
            toggleNeed 0 a
            row 0 1
            mover 0 2
            mover 0 1
            step 0 = 0
            standing 0 = 20100
            value 0 2 a = 42
            step 1 = 0
            standing 0 = 10000
            value 0 1 a = -1
            step 0 = 0
            set 0 a 43
            step 1 = 0
            standing 0 = 10001
            value 0 1 a = 43
            step 0 = 0
            standing 0 = 20001
            """);
    }

    private static void mostEntries() {
        StringBuilder script = new StringBuilder(Run.versions(24));
        script.append("row 0 23\nmover 0 0\nmover 0 23\nstanding 0 = 230000\n");
        for (int done = 1; done <= 23; done++) {
            script.append("step 0 = 0\nstanding 0 = " + (10000 * (23 - done) + 100 * done) + "\n");
        }
        script.append("step 0 = state\nvalue 0 23 w = -1\nvalue 0 1 a = -1\n");
        for (int done = 1; done <= 23; done++) {
            script.append("step 1 = 0\nstanding 0 = " + (10000 * done + 100 * (23 - done)) + "\n");
        }
        script.append("step 1 = state\n");
        check("the entries in its box: from none to one for each step, and none again", script.toString());
    }

    private static void manyLosses() {
        StringBuilder script = new StringBuilder("""
            schema
            add 0 a 0 5 no
            turn 0 a 2
            form 0
            take 0 a yes
            row 0 1
            """);
        for (int loss = 1; loss <= 101; loss++) {
            script.append("set 0 a 79\nwrite 0 0 a 8\nstanding 0 = " + (10000 + loss) + "\n");
        }
        check("10000 * its version + 100 * the entries in its box + its losses, above 99 too", script.toString());
    }

    public static void main(String[] args) {
        rowCount();
        rowNumbers();
        row();
        set();
        setNone();
        value();
        replayed();
        turns();
        parts();
        wholes();
        addAndDrop();
        needs();
        needsOfJoin();
        box();
        boxWithNone();
        boxOfDropAndAdd();
        boxOfRenameAndNeed();
        mostEntries();
        manyLosses();
        CHECKS.end();
    }
}
