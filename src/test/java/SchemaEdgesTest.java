/** The boundary cases of promises 1 to 12, each under the sentence of the document that names it. */
public final class SchemaEdgesTest {
    private static final Checks CHECKS = new Checks();

    /** Schema 0 at version 5: numbers a (needed) and b, a flag c (needed), tens d, and a number e. */
    private static final String FIELDS = """
        schema
        add 0 a 0 1234 yes
        add 0 b 0 7 no
        add 0 c 1 1 yes
        add 0 d 2 999 no
        add 0 e 0 0 no
        """;

    /** The same, with drops of a, c and e that wait for form 0, and a row 0 at the head. */
    private static final String WAITING = FIELDS + """
        form 0
        take 0 a yes
        take 0 c yes
        take 0 e no
        drop 0 a
        drop 0 c
        drop 0 e
        row 0 5
        """;

    private static void check(String about, String script) {
        Run.check(CHECKS, about, script);
    }

    private static void newObject() {
        check("Creates a registry without schemas", """
            add 0 a 0 0 no = bounds
            rename 0 a b = bounds
            turn 0 a 1 = bounds
            split 0 a b c 10 = bounds
            join 0 a b c 10 = bounds
            toggleNeed 0 a = bounds
            drop 0 a = bounds
            head 0 = bounds
            field 0 0 a = bounds
            text 0 1 0 = bounds
            form 0 = bounds
            take 0 a yes = bounds
            letGo 0 a = bounds
            retire 0 = bounds
            renew 0 = bounds
            read 0 0 a = bounds
            write 0 0 a 1 = bounds
            row 0 0 = bounds
            set 0 a 0 = bounds
            value 0 0 a = bounds
            replayed 0 a = bounds
            standing 0 = bounds
            mover 0 0 = bounds
            step 0 = bounds
            undo 0 = bounds
            schema = 0
            """);
        check("the empty registry: IndexOutOfBoundsException goes ahead of what else is wrong", """
            add 0 -1 3 -1 no = bounds
            rename 0 -1 -1 = bounds
            turn 0 -1 3 = bounds
            split 0 -1 -1 -1 1 = bounds
            join 0 -1 -1 -1 1 = bounds
            field 0 0 26 = bounds
            write 0 0 a -1 = bounds
            set 0 a -2 = bounds
            """);
    }

    private static void schemaCount() {
        check("Schemas are numbered from 0, at most 4. Throws IllegalStateException if there are 4", """
            head 0 = bounds
            schema = 0
            head 0 = 0
            head 1 = bounds
            schema = 1
            head 2 = bounds
            schema = 2
            head 3 = bounds
            schema = 3
            head 3 = 0
            head 4 = bounds
            add 0 a 0 1 no = 0
            add 3 a 0 1 no = 0
            schema = state
            schema = state
            head 0 = 100
            head 3 = 100
            head 4 = bounds
            head -1 = bounds
            head min = bounds
            head max = bounds
            """);
        check("each schema has fields and versions of its own", """
            schema
            schema
            add 1 a 0 5 no = 0
            head 0 = 0
            head 1 = 100
            rename 0 a b = bounds
            add 0 a 1 1 yes = 0
            field 0 1 a = 4
            field 1 1 a = 0
            add 0 b 0 5 no = 1
            add 1 b 0 5 no = 1
            """);
    }

    private static void versionZero() {
        check("the version 0 has no fields", """
            schema
            field 0 0 a = -1
            field 0 0 z = -1
            field 0 1 a = bounds
            text 0 0 0 = bounds
            text 0 1 0 = bounds
            rename 0 a b = bounds
            turn 0 a 0 = bounds
            split 0 a b c 10 = bounds
            join 0 a b c 10 = bounds
            toggleNeed 0 a = bounds
            drop 0 a = bounds
            form 0 = 0
            take 0 a yes = bounds
            letGo 0 a = bounds
            row 0 0 = 0
            read 0 0 a = bounds
            write 0 0 a 0 = bounds
            set 0 a 0 = bounds
            value 0 0 a = bounds
            replayed 0 a = bounds
            standing 0 = 0
            mover 0 0 = 0
            step 0 = state
            undo 0 = state
            renew 0 = 0
            retire 0 = 0
            add 0 a 0 5 yes = 0
            field 0 0 a = -1
            value 0 0 a = bounds
            value 0 1 a = 5
            """);
    }

    private static void versionCount() {
        String almost = Run.versions(23);
        String at22 = "A schema has at most 24 versions: the call that makes the last one, and the next: ";
        check(at22 + "add", almost + """
            head 0 = 2200
            add 0 x 0 0 no = 22
            head 0 = 2300
            add 0 y 0 0 no = state
            add 0 x 0 0 no = state
            head 0 = 2300
            """);
        check(at22 + "rename", almost + """
            rename 0 a z = 23
            head 0 = 2300
            rename 0 b y = state
            rename 0 z a = state
            """);
        check(at22 + "turn", almost + """
            turn 0 a 1 = 22
            head 0 = 2300
            turn 0 a 0 = state
            turn 0 b 2 = state
            """);
        check(at22 + "split", almost + """
            split 0 a a z 10 = 22
            head 0 = 2300
            split 0 a a y 10 = state
            split 0 b x y 10 = state
            """);
        check(at22 + "join", almost + """
            join 0 a b a 10 = 22
            head 0 = 2300
            join 0 a c a 10 = state
            join 0 c d z 10 = state
            """);
        check(at22 + "toggleNeed", almost + """
            toggleNeed 0 a = yes
            head 0 = 2300
            toggleNeed 0 a = state
            toggleNeed 0 b = state
            """);
        check(at22 + "drop", almost + """
            drop 0 a = yes
            head 0 = 2300
            drop 0 b = state
            form 0
            take 0 b yes = 1
            drop 0 b = state
            """);
    }

    private static void allOtherCallsWith24Versions() {
        check("with 24 versions, all that makes none is possible", Run.versions(24) + """
            head 0 = 2300
            field 0 23 w = 220
            field 0 24 w = bounds
            text 0 23 0 = 97
            text 0 24 0 = bounds
            form 0 = 0
            take 0 w yes = 1
            row 0 23 = 0
            row 0 24 = bounds
            write 0 0 w 5 = -1
            value 0 23 w = 5
            value 0 24 w = bounds
            mover 0 22 = 0
            mover 0 24 = bounds
            step 0 = 0
            undo 0 = 0
            renew 0 = 1
            schema = 1
            add 1 a 0 0 no = 0
            """);
    }

    private static void eachSchemaHas24Versions() {
        StringBuilder script = new StringBuilder("schema\n".repeat(4));
        for (int version = 1; version < 24; version++) {
            for (int schema = 0; schema < 4; schema++) {
                char name = (char) ('a' + version);
                script.append("add " + schema + " " + name + " 2 " + version + " no = " + (version - 1) + "\n");
            }
        }
        for (int schema = 0; schema < 4; schema++) {
            script.append("add " + schema + " a 0 0 no = state\n");
            script.append("head " + schema + " = 2300\n");
            script.append("field " + schema + " 23 x = 222\n");
        }
        check("at most 4 schemas with at most 24 versions each", script.toString());
    }

    private static void addRanges() {
        check("name: 0 to 25", """
            schema
            add 0 -1 0 0 no = argument
            add 0 26 0 0 no = argument
            add 0 min 0 0 no = argument
            add 0 max 0 0 no = argument
            head 0 = 0
            add 0 0 0 0 no = 0
            add 0 25 0 0 no = 1
            """);
        check("kind: 0 to 2", """
            schema
            add 0 a -1 0 no = argument
            add 0 a 3 0 no = argument
            add 0 a min 0 no = argument
            add 0 a max 0 no = argument
            add 0 a 0 0 no = 0
            add 0 b 1 0 no = 1
            add 0 c 2 0 no = 2
            field 0 3 a = 0
            field 0 3 b = 11
            field 0 3 c = 22
            """);
        check("Values of numbers are 0 to 9999", """
            schema
            add 0 a 0 -1 no = argument
            add 0 a 0 -1 yes = argument
            add 0 a 0 10000 no = argument
            add 0 a 0 min no = argument
            add 0 a 0 max no = argument
            add 0 a 0 0 yes = 0
            add 0 b 0 9999 yes = 1
            row 0 2
            value 0 2 a = 0
            value 0 2 b = 9999
            """);
        check("of flags 0 or 1", """
            schema
            add 0 a 1 -1 no = argument
            add 0 a 1 -1 yes = argument
            add 0 a 1 2 no = argument
            add 0 a 1 min no = argument
            add 0 a 1 max no = argument
            add 0 a 1 0 yes = 0
            add 0 b 1 1 yes = 1
            row 0 2
            value 0 2 a = 0
            value 0 2 b = 1
            """);
        check("of tens 0 to 999", """
            schema
            add 0 a 2 -1 no = argument
            add 0 a 2 -1 yes = argument
            add 0 a 2 1000 no = argument
            add 0 a 2 min no = argument
            add 0 a 2 max no = argument
            add 0 a 2 0 yes = 0
            add 0 b 2 999 yes = 1
            row 0 2
            value 0 2 a = 0
            value 0 2 b = 999
            """);
    }

    private static void addRefused() {
        check("add: no such schema", FIELDS + """
            add -1 f 0 0 no = bounds
            add 1 f 0 0 no = bounds
            add min f 0 0 no = bounds
            add max f 0 0 no = bounds
            add 0 f 0 0 no = 5
            """);
        check("add: the head has a field with this name, at whatever number, kind and need", FIELDS + """
            add 0 a 0 0 no = state
            add 0 e 0 0 yes = state
            add 0 c 1 0 no = state
            add 0 f 0 0 no = 5
            """);
        check("add: a name of the head alone is taken", FIELDS + """
            rename 0 a f = 6
            add 0 f 0 0 no = state
            add 0 a 0 0 no = 5
            drop 0 b = yes
            add 0 b 0 0 no = 6
            split 0 e g h 10
            add 0 g 0 0 no = state
            add 0 h 0 0 no = state
            add 0 e 0 0 no = 9
            join 0 g h i 10
            add 0 i 0 0 no = state
            add 0 h 0 0 no = 11
            turn 0 d 0
            add 0 d 0 0 no = state
            """);
        check("add: the name of a field that waits is taken still", WAITING + """
            add 0 a 0 0 no = state
            letGo 0 a = 1
            add 0 a 0 0 no = 5
            """);
        check("add: no such schema, and name, kind or value is out of range", FIELDS + """
            add 1 26 0 0 no = bounds
            add 1 f 3 0 no = bounds
            add 1 f 0 10000 no = bounds
            add -1 -1 -1 -1 no = bounds
            """);
        check("add: name, kind or value is out of range, and the name is taken", FIELDS + """
            add 0 a 3 0 no = argument
            add 0 a -1 0 no = argument
            add 0 a 0 10000 no = argument
            add 0 a 0 -1 no = argument
            add 0 c 1 2 no = argument
            """);
        check("add: no such schema, or out of range, and 24 versions", Run.versions(24) + """
            add 1 x 0 0 no = bounds
            add 1 x 3 0 no = bounds
            add 0 -1 0 0 no = argument
            add 0 26 0 0 no = argument
            add 0 x 3 0 no = argument
            add 0 x 1 2 no = argument
            add 0 a 0 -1 no = argument
            add 0 a 0 0 no = state
            """);
    }

    private static void rename() {
        check("rename: no such schema or field", FIELDS + """
            rename -1 a f = bounds
            rename 1 a f = bounds
            rename min a f = bounds
            rename max a f = bounds
            rename 0 f g = bounds
            rename 0 -1 f = bounds
            rename 0 26 f = bounds
            rename 0 min f = bounds
            rename 0 max f = bounds
            """);
        check("rename: other: 0 to 25", FIELDS + """
            rename 0 a -1 = argument
            rename 0 a 26 = argument
            rename 0 a min = argument
            rename 0 a max = argument
            rename 0 a 25 = 6
            rename 0 z 0 = 7
            """);
        check("rename: the head has a field with the other name, this one included", FIELDS + """
            rename 0 a b = state
            rename 0 a e = state
            rename 0 a a = state
            rename 0 e e = state
            rename 0 a f = 6
            rename 0 a f = bounds
            rename 0 b a = 7
            rename 0 f a = state
            rename 0 f b = 8
            """);
        check("rename: no such field, and other out of range or taken", FIELDS + """
            rename 0 f 26 = bounds
            rename 0 f -1 = bounds
            rename 1 a 26 = bounds
            rename 1 a a = bounds
            rename 0 f a = bounds
            rename 0 f f = bounds
            rename 0 -1 -1 = bounds
            """);
    }

    private static void renameKeeps() {
        check("rename: with 24 versions", Run.versions(24) + """
            rename 0 a z = state
            rename 0 a b = state
            rename 0 a a = state
            rename 0 a 26 = argument
            rename 0 a -1 = argument
            rename 0 z y = bounds
            rename 0 z 26 = bounds
            rename 1 a z = bounds
            rename 1 a 26 = bounds
            """);
        check("rename: the field stays as it is, needed or not, and may wait", WAITING + """
            rename 0 a f = 6
            field 0 6 f = 3
            field 0 6 a = -1
            field 0 5 a = 3
            rename 0 b g = 7
            field 0 7 g = 10
            head 0 = 703
            drop 0 f = state
            letGo 0 a = 1
            words 0 8 = drop f>
            """);
    }

    private static void turn() {
        check("turn: no such schema or field", FIELDS + """
            turn -1 a 1 = bounds
            turn 1 a 1 = bounds
            turn min a 1 = bounds
            turn max a 1 = bounds
            turn 0 f 1 = bounds
            turn 0 -1 1 = bounds
            turn 0 26 1 = bounds
            turn 0 min 1 = bounds
            turn 0 max 1 = bounds
            rename 0 a f
            turn 0 a 1 = bounds
            """);
        check("turn: kind: 0 to 2", FIELDS + """
            turn 0 a -1 = argument
            turn 0 a 3 = argument
            turn 0 a min = argument
            turn 0 a max = argument
            turn 0 c 0 = 5
            turn 0 a 2 = 6
            """);
        check("turn: the field is of this kind", FIELDS + """
            turn 0 a 0 = state
            turn 0 c 1 = state
            turn 0 d 2 = state
            turn 0 a 1 = 5
            turn 0 a 1 = state
            turn 0 a 2 = 6
            turn 0 a 2 = state
            turn 0 a 0 = 7
            turn 0 a 0 = state
            """);
        check("turn: its drop waits; that of another one is no matter, nor is it to be held", WAITING + """
            turn 0 a 1 = state
            turn 0 c 0 = state
            turn 0 e 2 = state
            take 0 b yes
            turn 0 b 1 = 5
            turn 0 d 0 = 6
            head 0 = 703
            """);
    }

    private static void turnSeveral() {
        check("turn: several at once", WAITING + """
            turn 0 a 0 = state
            turn 0 a 3 = argument
            turn 0 a -1 = argument
            turn 0 f 3 = bounds
            turn 0 26 3 = bounds
            turn 1 a 3 = bounds
            turn 1 a 0 = bounds
            """);
        check("turn: with 24 versions", Run.versions(24) + """
            turn 0 a 1 = state
            turn 0 a 0 = state
            turn 0 a 3 = argument
            turn 0 a -1 = argument
            turn 0 z 1 = bounds
            turn 0 z 3 = bounds
            turn 1 a 1 = bounds
            turn 1 a 3 = bounds
            """);
        check("turn: one behind of another kind, with the same name, needed or not alike", FIELDS + """
            turn 0 a 1 = 5
            field 0 6 a = 54
            turn 0 b 2 = 6
            field 0 7 b = 62
            turn 0 c 2 = 7
            field 0 8 c = 75
            turn 0 d 0 = 8
            field 0 9 d = 80
            field 0 5 a = 3
            field 0 9 e = 40
            """);
    }

    /** What the way up tells of the default of the field in front. */
    private static void turnDefaults() {
        int[][] cases = {
            {0, 0, 1, 0}, {0, 1, 1, 1}, {0, 9999, 1, 1},
            {0, 0, 2, 0}, {0, 9, 2, 0}, {0, 10, 2, 1}, {0, 9990, 2, 999}, {0, 9999, 2, 999},
            {1, 0, 0, 0}, {1, 1, 0, 1}, {1, 0, 2, 0}, {1, 1, 2, 1},
            {2, 0, 0, 0}, {2, 1, 0, 10}, {2, 999, 0, 9990},
            {2, 0, 1, 0}, {2, 1, 1, 1}, {2, 999, 1, 1},
        };
        for (int[] c : cases) {
            check("The default of a field that is made by turn", "schema\nadd 0 a " + c[0] + " " + c[1] + " yes\n"
                + "turn 0 a " + c[2] + " = 1\nrow 0 2\nvalue 0 2 a = " + c[3] + "\n");
        }
    }

    private static void split() {
        check("split: no such schema or field", FIELDS + """
            split -1 a f g 10 = bounds
            split 1 a f g 10 = bounds
            split min a f g 10 = bounds
            split max a f g 10 = bounds
            split 0 f f g 10 = bounds
            split 0 -1 f g 10 = bounds
            split 0 26 f g 10 = bounds
            split 0 min f g 10 = bounds
            split 0 max f g 10 = bounds
            rename 0 a f
            split 0 a g h 10 = bounds
            """);
        check("split: first: 0 to 25", FIELDS + """
            split 0 a -1 g 10 = argument
            split 0 a 26 g 10 = argument
            split 0 a min g 10 = argument
            split 0 a max g 10 = argument
            split 0 a 25 g 10 = 5
            split 0 b 0 h 10 = 7
            """);
        check("split: second: 0 to 25", FIELDS + """
            split 0 a g -1 10 = argument
            split 0 a g 26 10 = argument
            split 0 a g min 10 = argument
            split 0 a g max 10 = argument
            split 0 a g 25 10 = 5
            split 0 b h 0 10 = 7
            """);
        check("split: divisor: 2 to 100", FIELDS + """
            split 0 a f g 1 = argument
            split 0 a f g 101 = argument
            split 0 a f g 0 = argument
            split 0 a f g -1 = argument
            split 0 a f g -10 = argument
            split 0 a f g min = argument
            split 0 a f g max = argument
            split 0 a f g 2 = 5
            split 0 b h i 100 = 7
            """);
    }

    private static void splitRefused() {
        check("split: first and second are the same", FIELDS + """
            split 0 a f f 10 = argument
            split 0 a a a 10 = argument
            split 0 a b b 10 = argument
            split 0 a z z 10 = argument
            split 0 a 26 26 10 = argument
            """);
        check("split: the field is no number", FIELDS + """
            split 0 c f g 10 = state
            split 0 d f g 10 = state
            turn 0 a 2 = 5
            split 0 a f g 10 = state
            turn 0 d 0 = 6
            split 0 d f g 10 = 7
            """);
        check("split: its drop waits; that of another one is no matter", WAITING + """
            split 0 a f g 10 = state
            split 0 e f g 10 = state
            split 0 a a g 10 = state
            split 0 b f g 10 = 5
            """);
        check("split: another field of the head has one of both names", FIELDS + """
            split 0 a b g 10 = state
            split 0 a g b 10 = state
            split 0 a a b 10 = state
            split 0 a b a 10 = state
            split 0 a b e 10 = state
            split 0 a c g 10 = state
            split 0 a g a 10 = 5
            field 0 6 g = 53
            field 0 6 a = 63
            split 0 b b h 10 = 7
            field 0 7 b = 70
            field 0 7 h = 80
            split 0 a g h 10 = state
            split 0 a i j 10 = 9
            field 0 8 a = -1
            field 0 8 i = 93
            field 0 8 j = 103
            """);
        check("split: the name of a field that waits is taken", WAITING + """
            split 0 b a f 10 = state
            split 0 b f c 10 = state
            """);
    }

    private static void splitSeveral() {
        check("split: several at once", WAITING + """
            split 0 f f 26 10 = bounds
            split 0 f f f 10 = bounds
            split 0 f 26 26 1 = bounds
            split 0 f a b 10 = bounds
            split 1 a f g 1 = bounds
            split 1 a b c 10 = bounds
            split 0 c f g 1 = argument
            split 0 c f f 10 = argument
            split 0 c 26 f 10 = argument
            split 0 d f -1 10 = argument
            split 0 a f g 101 = argument
            split 0 a f f 10 = argument
            split 0 e -1 f 10 = argument
            split 0 b a 26 10 = argument
            split 0 b a c 1 = argument
            split 0 c a b 10 = state
            """);
        check("split: with 24 versions", Run.versions(24) + """
            split 0 a y z 10 = state
            split 0 a a z 10 = state
            split 0 a b z 10 = state
            split 0 a y z 1 = argument
            split 0 a y y 10 = argument
            split 0 a 26 z 10 = argument
            split 0 a y 26 10 = argument
            split 0 z y z 10 = bounds
            split 0 z y y 1 = bounds
            split 1 a y z 10 = bounds
            """);
        check("split: Returns number of the first part, that of the second one is 1 more", FIELDS + """
            split 0 b f g 10 = 5
            field 0 6 f = 50
            field 0 6 g = 60
            split 0 a h i 10 = 7
            field 0 7 h = 73
            field 0 7 i = 83
            add 0 j 0 0 no = 9
            """);
    }

    private static void splitDefaults() {
        int[][] cases = {
            {0, 2, 0, 0}, {1, 2, 0, 1}, {2, 2, 1, 0}, {9999, 2, 4999, 1},
            {0, 100, 0, 0}, {99, 100, 0, 99}, {100, 100, 1, 0}, {9999, 100, 99, 99}, {9, 10, 0, 9},
        };
        for (int[] c : cases) {
            check("The default of a field that is made by split", "schema\nadd 0 a 0 " + c[0] + " yes\n"
                + "split 0 a b a " + c[1] + " = 1\nrow 0 2\n"
                + "value 0 2 b = " + c[2] + "\nvalue 0 2 a = " + c[3] + "\n");
        }
    }

    private static void join() {
        check("join: no such schema or field", FIELDS + """
            join -1 a b f 10 = bounds
            join 1 a b f 10 = bounds
            join min a b f 10 = bounds
            join max a b f 10 = bounds
            join 0 f b g 10 = bounds
            join 0 a f g 10 = bounds
            join 0 f f g 10 = bounds
            join 0 -1 b f 10 = bounds
            join 0 a -1 f 10 = bounds
            join 0 26 b f 10 = bounds
            join 0 a 26 f 10 = bounds
            join 0 min b f 10 = bounds
            join 0 a max f 10 = bounds
            rename 0 a f
            join 0 a b g 10 = bounds
            join 0 b a g 10 = bounds
            """);
        check("join: name: 0 to 25", FIELDS + """
            join 0 a b -1 10 = argument
            join 0 a b 26 10 = argument
            join 0 a b min 10 = argument
            join 0 a b max 10 = argument
            join 0 a b 25 10 = 5
            join 0 z e 0 10 = 6
            """);
        check("join: factor: 2 to 100", FIELDS + """
            join 0 a b f 1 = argument
            join 0 a b f 101 = argument
            join 0 a b f 0 = argument
            join 0 a b f -1 = argument
            join 0 a b f min = argument
            join 0 a b f max = argument
            join 0 a b f 2 = 5
            join 0 f e g 100 = 6
            """);
        check("join: first and second are the same", FIELDS + """
            join 0 a a f 10 = argument
            join 0 a a a 10 = argument
            join 0 c c f 10 = argument
            join 0 a a b 10 = argument
            """);
    }

    private static void joinRefused() {
        check("join: one of both is no number", FIELDS + """
            join 0 a c f 10 = state
            join 0 c a f 10 = state
            join 0 a d f 10 = state
            join 0 d a f 10 = state
            join 0 c d f 10 = state
            turn 0 c 0 = 5
            join 0 a c f 10 = 6
            """);
        check("join: its drop waits, that of the first or of the second", WAITING + """
            add 0 f 0 0 no = 5
            join 0 a b g 10 = state
            join 0 b a g 10 = state
            join 0 a e g 10 = state
            join 0 f e e 10 = state
            join 0 f b g 10 = 6
            """);
        check("join: a third field of the head has the name", FIELDS + """
            join 0 a b e 10 = state
            join 0 a b c 10 = state
            join 0 b e a 10 = state
            join 0 a b a 10 = 5
            field 0 6 a = 53
            field 0 6 b = -1
            join 0 a e e 10 = 6
            field 0 7 e = 63
            field 0 7 a = -1
            """);
        check("join: the name of a third field that waits is taken", WAITING + """
            add 0 f 0 0 no
            join 0 b f c 10 = state
            join 0 b f g 10 = 6
            """);
    }

    private static void joinSeveral() {
        check("join: several at once", WAITING + """
            join 0 f b 26 10 = bounds
            join 0 a f 26 1 = bounds
            join 0 f f f 1 = bounds
            join 0 f f g 10 = bounds
            join 0 f c a 10 = bounds
            join 0 c f a 10 = bounds
            join 1 a b f 1 = bounds
            join 1 a a f 10 = bounds
            join 0 a b 26 10 = argument
            join 0 b a f 1 = argument
            join 0 c b f 101 = argument
            join 0 b d -1 10 = argument
            join 0 a a f 10 = argument
            join 0 d d d 10 = argument
            join 0 b e c 1 = argument
            join 0 b e a 101 = argument
            join 0 c e a 10 = state
            """);
        check("join: with 24 versions", Run.versions(24) + """
            join 0 a b z 10 = state
            join 0 a b a 10 = state
            join 0 a b c 10 = state
            join 0 a b 26 10 = argument
            join 0 a b z 101 = argument
            join 0 a a z 10 = argument
            join 0 a z y 10 = bounds
            join 0 z a y 1 = bounds
            join 1 a b z 10 = bounds
            """);
    }

    private static void joinNeeds() {
        for (int both = 0; both < 4; both++) {
            String first = both % 2 == 0 ? "no" : "yes";
            String second = both / 2 == 0 ? "no" : "yes";
            check("it is needed if one of both was: " + first + ", " + second,
                "schema\nadd 0 a 0 1 " + first + "\nadd 0 b 0 2 " + second + "\njoin 0 a b c 10 = 2\n"
                    + "field 0 3 c = " + (both == 0 ? 20 : 23) + "\n");
        }
    }

    private static void joinDefaults() {
        int[][] cases = {
            {0, 0, 2, 0}, {1, 0, 2, 2}, {0, 1, 2, 1}, {4999, 1, 2, 9999}, {4999, 2, 2, 9999}, {4999, 0, 2, 9998},
            {99, 99, 100, 9999}, {99, 98, 100, 9998}, {99, 100, 100, 9999}, {100, 0, 100, 9999},
            {9999, 9999, 100, 9999}, {9999, 0, 2, 9999}, {0, 9999, 100, 9999}, {12, 34, 100, 1234},
        };
        for (int[] c : cases) {
            check("The default of a field that is made by join", "schema\nadd 0 a 0 " + c[0] + " yes\n"
                + "add 0 b 0 " + c[1] + " no\njoin 0 a b b " + c[2] + " = 2\nrow 0 3\nvalue 0 3 b = " + c[3] + "\n");
        }
    }

    private static void toggleNeed() {
        check("toggleNeed: no such schema or field", FIELDS + """
            toggleNeed -1 a = bounds
            toggleNeed 1 a = bounds
            toggleNeed min a = bounds
            toggleNeed max a = bounds
            toggleNeed 0 f = bounds
            toggleNeed 0 -1 = bounds
            toggleNeed 0 26 = bounds
            toggleNeed 0 min = bounds
            toggleNeed 0 max = bounds
            rename 0 a f
            toggleNeed 0 a = bounds
            """);
        check("toggleNeed: Returns true if it is needed then; the versions ahead stay as they are", FIELDS + """
            toggleNeed 0 a = no
            toggleNeed 0 a = yes
            toggleNeed 0 b = yes
            toggleNeed 0 c = no
            toggleNeed 0 d = yes
            field 0 5 a = 3
            field 0 6 a = 0
            field 0 7 a = 3
            field 0 8 b = 13
            field 0 9 c = 21
            field 0 10 d = 35
            field 0 10 a = 3
            field 0 10 e = 40
            """);
        check("toggleNeed: a field that waits may be needed", WAITING + """
            toggleNeed 0 a = no
            head 0 = 603
            """);
        check("toggleNeed: with 24 versions", Run.versions(24) + """
            toggleNeed 0 a = state
            toggleNeed 0 w = state
            toggleNeed 0 z = bounds
            toggleNeed 0 26 = bounds
            toggleNeed 1 a = bounds
            """);
    }

    private static void drop() {
        check("drop: no such schema or field", FIELDS + """
            drop -1 a = bounds
            drop 1 a = bounds
            drop min a = bounds
            drop max a = bounds
            drop 0 f = bounds
            drop 0 -1 = bounds
            drop 0 26 = bounds
            drop 0 min = bounds
            drop 0 max = bounds
            drop 0 a = yes
            drop 0 a = bounds
            field 0 6 a = -1
            field 0 5 a = 3
            """);
        check("drop: the last field", """
            schema
            add 0 a 0 0 yes
            drop 0 a = yes
            field 0 2 a = -1
            head 0 = 200
            row 0 2 = 0
            """);
        check("drop: it waits", WAITING + """
            head 0 = 503
            drop 0 a = state
            drop 0 c = state
            drop 0 e = state
            drop 0 f = bounds
            drop 1 a = bounds
            drop 0 b = yes
            drop 0 b = bounds
            head 0 = 603
            """);
        check("drop: with 24 versions, held up or not", Run.versions(23) + """
            form 0
            take 0 a yes
            take 0 b yes
            drop 0 a = no
            head 0 = 2201
            add 0 z 0 0 no
            head 0 = 2301
            drop 0 a = state
            drop 0 b = state
            drop 0 c = state
            drop 0 y = bounds
            drop 1 a = bounds
            """);
    }

    private static void head() {
        check("Returns 100 * the head + the number: none waits, and some", FIELDS + """
            head 0 = 500
            head -1 = bounds
            head 1 = bounds
            form 0
            take 0 a yes
            drop 0 a = no
            head 0 = 501
            letGo 0 a = 1
            head 0 = 600
            """);
        StringBuilder script = new StringBuilder(Run.versions(23) + "form 0\n");
        for (char name = 'a'; name <= 'v'; name++) {
            script.append("take 0 ").append(name).append(" no = ").append(name - 'a' + 1).append('\n');
        }
        for (char name = 'a'; name <= 'v'; name++) {
            script.append("drop 0 ").append(name).append(" = no\n");
        }
        script.append("head 0 = 2222\n");
        for (char name = 'a'; name <= 'v'; name++) {
            script.append("drop 0 ").append(name).append(" = state\n");
        }
        script.append("retire 0 = 1\nhead 0 = 2321\nwords 0 23 = drop a>\n");
        check("all fields of a schema wait, and one version is left", script.toString());
    }

    private static void field() {
        check("field: version: 0 to its head", FIELDS + """
            field 0 0 a = -1
            field 0 1 a = 3
            field 0 4 e = -1
            field 0 5 e = 40
            field 0 6 e = bounds
            field 0 -1 e = bounds
            field 0 min e = bounds
            field 0 max e = bounds
            field -1 0 a = bounds
            field 1 0 a = bounds
            field min 0 a = bounds
            field max 0 a = bounds
            """);
        check("field: name: 0 to 25, -1 if there is none", FIELDS + """
            add 0 z 2 5 yes
            field 0 6 a = 3
            field 0 6 z = 55
            field 0 6 y = -1
            field 0 5 z = -1
            field 0 6 -1 = argument
            field 0 6 26 = argument
            field 0 6 min = argument
            field 0 6 max = argument
            field 0 0 26 = argument
            """);
        check("field: no such schema or version, and name out of range", FIELDS + """
            field 1 0 26 = bounds
            field -1 -1 -1 = bounds
            field 0 6 26 = bounds
            field 0 -1 -1 = bounds
            """);
        check("10 * number of the field + 3 if it is needed + its kind", FIELDS + """
            field 0 5 a = 3
            field 0 5 b = 10
            field 0 5 c = 24
            field 0 5 d = 32
            toggleNeed 0 d
            field 0 6 d = 35
            field 0 5 d = 32
            """);
        check("the greatest number of a field: all steps but the first are splits", mostFields() + """
            field 0 23 w = 440
            field 0 23 v = 430
            field 0 22 v = 420
            head 0 = 2300
            row 0 23
            set 0 w 1
            value 0 22 v = -1
            set 0 v 2
            value 0 22 v = 5
            standing 0 = 230000
            """);
    }

    private static String mostFields() {
        StringBuilder script = new StringBuilder("schema\nadd 0 a 0 9999 no\n");
        for (int i = 0; i < 22; i++) {
            char name = (char) ('a' + i);
            char next = (char) ('b' + i);
            script.append("split 0 " + name + " " + name + " " + next + " 2 = " + (2 * i + 1) + "\n");
        }
        return script.toString();
    }

    private static void text() {
        String steps = """
            schema
            add 0 a 0 0 no
            add 0 z 0 0 no
            rename 0 a b
            turn 0 z 1
            split 0 b c b 10
            join 0 c b h 10
            toggleNeed 0 h
            toggleNeed 0 h
            rename 0 h a
            drop 0 a
            """;
        check("text: each step, with names of the versions ahead of it and behind it", steps + """
            words 0 1 = add> a
            words 0 2 = add> z
            words 0 3 = rename a> b
            words 0 4 = turn z> z
            words 0 5 = split b> c b
            words 0 6 = join c b> h
            words 0 7 = need h> h
            words 0 8 = need h> h
            words 0 9 = rename h> a
            words 0 10 = drop a>
            """);
        check("text: version: 1 to the head", steps + """
            text 0 1 0 = 97
            text 0 10 0 = 100
            text 0 0 0 = bounds
            text 0 11 0 = bounds
            text 0 -1 0 = bounds
            text 0 min 0 = bounds
            text 0 max 0 = bounds
            text 1 1 0 = bounds
            text -1 1 0 = bounds
            text min 1 0 = bounds
            text max 1 0 = bounds
            """);
        check("text: place: 0 for the first character, the last one, and the next", steps + """
            text 0 1 -1 = bounds
            text 0 1 min = bounds
            text 0 1 max = bounds
            text 0 1 0 = 97
            text 0 1 3 = 62
            text 0 1 4 = 32
            text 0 1 5 = 97
            text 0 1 6 = bounds
            text 0 3 10 = 98
            text 0 3 11 = bounds
            text 0 4 8 = 122
            text 0 4 9 = bounds
            text 0 5 11 = 98
            text 0 5 12 = bounds
            text 0 6 10 = 104
            text 0 6 11 = bounds
            text 0 7 8 = 104
            text 0 7 9 = bounds
            text 0 10 6 = 62
            text 0 10 7 = bounds
            """);
    }

    /** A step leads from a version to the next one: those ahead of it stay as they are. */
    private static void versionsAhead() {
        String[] steps = {"add 0 z 0 5 yes", "rename 0 a z", "turn 0 a 1", "split 0 a z y 10", "join 0 a b z 10",
            "join 0 b e b 10", "toggleNeed 0 a", "toggleNeed 0 b", "drop 0 a"};
        String sight = """
            field 0 5 a = 3
            field 0 5 b = 10
            field 0 5 c = 24
            field 0 5 d = 32
            field 0 5 e = 40
            field 0 5 y = -1
            field 0 5 z = -1
            words 0 5 = add> e
            field 0 4 a = 3
            field 0 4 e = -1
            field 0 4 z = -1
            """;
        for (String step : steps) {
            check("the versions ahead of a step stay as they are: " + step, FIELDS + sight + step + "\n" + sight);
        }
        check("All others stay as they are", FIELDS + """
            rename 0 b z
            turn 0 d 0
            split 0 z y x 10
            join 0 y x w 10
            toggleNeed 0 w
            drop 0 w
            field 0 11 a = 3
            field 0 11 c = 24
            field 0 11 e = 40
            field 0 11 d = 50
            field 0 11 b = -1
            field 0 11 z = -1
            field 0 11 y = -1
            field 0 11 x = -1
            field 0 11 w = -1
            field 0 10 w = 83
            field 0 9 w = 80
            field 0 8 x = 70
            field 0 8 y = 60
            """);
    }

    private static void fieldNumbers() {
        check("Fields are numbered for each schema from 0, in the order in which they are made", """
            schema
            add 0 a 0 50 no = 0
            rename 0 a b = 2
            toggleNeed 0 b = yes
            split 0 b c d 10 = 1
            drop 0 c = yes
            add 0 e 0 0 no = 3
            join 0 d e f 10 = 4
            turn 0 f 1 = 5
            add 0 g 0 0 no = 6
            """);
    }

    public static void main(String[] args) {
        newObject();
        schemaCount();
        versionZero();
        versionCount();
        allOtherCallsWith24Versions();
        eachSchemaHas24Versions();
        addRanges();
        addRefused();
        rename();
        renameKeeps();
        turn();
        turnSeveral();
        turnDefaults();
        split();
        splitRefused();
        splitSeveral();
        splitDefaults();
        join();
        joinRefused();
        joinSeveral();
        joinNeeds();
        joinDefaults();
        toggleNeed();
        drop();
        head();
        field();
        text();
        versionsAhead();
        fieldNumbers();
        CHECKS.end();
    }
}
