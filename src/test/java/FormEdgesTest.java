/** The boundary cases of promises 13 to 19 and of drops, each under the sentence of the document that names it. */
public final class FormEdgesTest {
    private static final Checks CHECKS = new Checks();

    /** Schema 0 at version 4: numbers a and b, a flag c, tens d; a form 0 for that; and an empty schema 1. */
    private static final String FIELDS = """
        schema
        add 0 a 0 10 no
        add 0 b 0 20 no
        add 0 c 1 1 no
        add 0 d 2 30 no
        schema
        form 0
        """;

    /** The same, with a and b held to be written and c to be read alone, row 0 of schema 0, and row 1 of schema 1. */
    private static final String HELD = FIELDS + """
        take 0 a yes
        take 0 b yes
        take 0 c no
        row 0 4
        row 1 0
        """;

    private static void check(String about, String script) {
        Run.check(CHECKS, about, script);
    }

    private static void formCount() {
        check("Forms are numbered from 0, at most 8", """
            schema
            schema
            retire 0 = bounds
            form 0 = 0
            retire 1 = bounds
            form 1 = 1
            form 0 = 2
            form 1 = 3
            form 0 = 4
            form 1 = 5
            form 0 = 6
            renew 6 = 0
            renew 7 = bounds
            form 1 = 7
            renew 7 = 0
            form 0 = state
            form 1 = state
            form 2 = bounds
            form -1 = bounds
            retire 0 = 0
            retire 7 = 0
            form 0 = state
            renew 8 = bounds
            """);
        check("form: no such schema", """
            form 0 = bounds
            schema
            form -1 = bounds
            form 1 = bounds
            form min = bounds
            form max = bounds
            form 0 = 0
            """);
    }

    private static void formNumbers() {
        for (String call : new String[] {"take %s a yes", "letGo %s a", "retire %s", "renew %s", "read %s 0 a",
            "write %s 0 a 1"}) {
            StringBuilder script = new StringBuilder(HELD);
            for (String form : new String[] {"-1", "1", "7", "8", "min", "max"}) {
                script.append(call.formatted(form)).append(" = bounds\n");
            }
            check("no such form: " + call, script.toString());
        }
    }

    private static void emptyForm() {
        check("Makes a form that holds nothing", FIELDS + """
            row 0 4
            letGo 0 a = bounds
            read 0 0 a = bounds
            write 0 0 a 1 = bounds
            renew 0 = 0
            retire 0 = 0
            drop 0 a = yes
            """);
        check("A form is for the head when it is made", FIELDS + """
            form 1 = 1
            add 1 a 0 0 no
            take 1 a yes = bounds
            form 1 = 2
            take 2 a yes = 1
            renew 1 = 0
            take 1 a yes = 1
            """);
    }

    private static void take() {
        check("take: name: that of a field of its version", FIELDS + """
            take 0 e yes = bounds
            take 0 -1 yes = bounds
            take 0 26 yes = bounds
            take 0 min yes = bounds
            take 0 max no = bounds
            add 0 e 0 0 no
            take 0 e yes = bounds
            rename 0 a f
            take 0 f yes = bounds
            take 0 a yes = 1
            split 0 b g h 10
            take 0 g no = bounds
            take 0 b no = 2
            """);
        StringBuilder all = new StringBuilder(Run.versions(24)).append("form 0\n");
        for (char name = 'a'; name <= 'w'; name++) {
            all.append("take 0 " + name + " yes = " + (name - 'a' + 1) + "\n");
        }
        for (char name = 'a'; name <= 'w'; name++) {
            all.append("letGo 0 " + name + " = 0\n");
        }
        all.append("letGo 0 w = bounds\ntake 0 w no = 1\n");
        check("take: Returns how many fields it holds then: from the first to all, and none again", all.toString());
        check("take: or take it anew", HELD + """
            write 0 0 a 5 = -1
            take 0 a no = 3
            write 0 0 a 6 = state
            read 0 0 a = 5
            take 0 a no = 3
            take 0 a yes = 3
            write 0 0 a 6 = 5
            take 0 c yes = 3
            write 0 0 c 1 = -1
            """);
    }

    private static void takeRefused() {
        check("take: the form is retired", HELD + """
            retire 0 = 0
            take 0 a yes = state
            take 0 d no = state
            take 0 e yes = bounds
            take 0 26 yes = bounds
            """);
        check("take: a trace of the field waits to be dropped", HELD + """
            form 0
            drop 0 a = no
            take 1 a yes = state
            take 1 a no = state
            take 0 a no = state
            take 0 e no = bounds
            retire 1
            take 1 a no = state
            take 1 e no = bounds
            letGo 0 a = 1
            take 0 a no = state
            """);
        check("take: one of two traces waits", HELD + """
            form 0
            split 0 a e f 10
            take 1 a yes = 1
            drop 0 f = no
            take 1 a no = state
            form 0
            take 2 f yes = state
            take 2 e yes = 1
            """);
    }

    private static void takeOfTraces() {
        check("take: the trace of a turned and renamed field waits", HELD + """
            form 0
            turn 0 a 1
            rename 0 a e
            toggleNeed 0 e
            turn 0 e 2
            take 1 a no = 1
            drop 0 e = no
            take 1 a yes = state
            take 1 b yes = 2
            """);
        check("take: the joined one waits, and both are its parts", HELD + """
            form 0
            join 0 a b e 10
            drop 0 e = no
            take 1 a yes = state
            take 1 b yes = state
            take 1 c yes = 1
            """);
        check("take: it has no trace any more", FIELDS + """
            drop 0 a = yes
            take 0 a yes = state
            take 0 a no = state
            add 0 a 0 0 no
            take 0 a no = state
            split 0 b e f 10
            drop 0 e = yes
            take 0 b yes = 1
            letGo 0 b = 0
            drop 0 f = yes
            take 0 b yes = state
            turn 0 c 0
            drop 0 c = yes
            take 0 c yes = state
            take 0 e no = bounds
            take 0 d no = 1
            """);
    }

    private static void letGo() {
        check("letGo: name: that of a field of its version that it holds", HELD + """
            letGo 0 d = bounds
            letGo 0 e = bounds
            letGo 0 -1 = bounds
            letGo 0 26 = bounds
            letGo 0 min = bounds
            letGo 0 max = bounds
            rename 0 a e
            letGo 0 e = bounds
            letGo 0 a = 0
            letGo 0 a = bounds
            letGo 0 b = 0
            letGo 0 c = 0
            letGo 0 c = bounds
            """);
        check("letGo: of a form that is retired", HELD + """
            retire 0 = 0
            letGo 0 a = bounds
            """);
        check("letGo: it may not be written then, if it is taken anew to be read", HELD + """
            letGo 0 a = 0
            read 0 0 a = bounds
            write 0 0 a 5 = bounds
            take 0 a no = 3
            write 0 0 a 5 = state
            """);
        check("letGo: Returns how many drops are carried out by that: none, one, and two", HELD + """
            letGo 0 c = 0
            drop 0 a = no
            letGo 0 a = 1
            split 0 b e f 10
            drop 0 f = no
            drop 0 e = no
            head 0 = 602
            letGo 0 b = 2
            head 0 = 800
            words 0 7 = drop f>
            words 0 8 = drop e>
            """);
    }

    private static void retire() {
        check("retire: it is retired", HELD + """
            retire 0 = 0
            retire 0 = state
            renew 0 = state
            retire 1 = bounds
            """);
        check("It is alive until it is retired, by which it lets all go", HELD + """
            drop 0 c = no
            drop 0 a = no
            retire 0 = 2
            words 0 5 = drop c>
            words 0 6 = drop a>
            drop 0 b = yes
            read 0 0 b = bounds
            write 0 0 b 1 = bounds
            letGo 0 b = bounds
            """);
        check("renew: it is retired, or there is none", HELD + """
            renew 1 = bounds
            renew -1 = bounds
            add 0 e 0 0 no
            retire 0 = 0
            renew 0 = state
            take 0 e no = bounds
            take 0 d no = state
            """);
    }

    /** As long as some form that is alive holds it up, it waits. */
    private static void heldUp() {
        check("some form: of three the last one", HELD + """
            form 0
            form 0
            take 1 a no
            take 2 a no
            drop 0 a = no
            letGo 0 a = 0
            head 0 = 401
            retire 1 = 0
            head 0 = 401
            letGo 2 a = 1
            head 0 = 500
            """);
        check("none: a form of the schema that does not hold it, nor one of another schema", HELD + """
            add 1 a 0 0 no
            form 1
            take 1 a yes = 1
            drop 0 d = yes
            drop 0 a = no
            drop 1 a = no
            letGo 1 a = 1
            head 1 = 200
            head 0 = 501
            letGo 0 a = 1
            head 0 = 600
            """);
        check("the waiting drops of its schema alone are looked at", """
            schema
            schema
            add 0 a 0 0 no
            add 1 a 0 0 no
            form 0
            form 1
            take 0 a no
            take 1 a no
            drop 0 a = no
            drop 1 a = no
            retire 0 = 1
            head 0 = 200
            head 1 = 101
            retire 1 = 1
            head 1 = 200
            """);
    }

    private static void heldUpByTraces() {
        check("itself, if it is there; rename and need change nothing", HELD + """
            rename 0 a e
            toggleNeed 0 e
            rename 0 e f
            drop 0 f = no
            letGo 0 a = 1
            """);
        check("the traces of those behind that step: turn", HELD + """
            turn 0 a 1
            turn 0 a 2
            drop 0 a = no
            letGo 0 a = 1
            """);
        check("the traces of those behind that step: both of split", HELD + """
            split 0 a e f 10
            split 0 f g h 10
            drop 0 e = no
            drop 0 g = no
            drop 0 h = no
            head 0 = 603
            letGo 0 a = 3
            head 0 = 900
            """);
        check("the traces of those behind that step: join, by the first or the second", HELD + """
            join 0 a b e 10
            letGo 0 a = 0
            drop 0 e = no
            letGo 0 b = 1
            """);
        check("of drop none", FIELDS + """
            drop 0 a = yes
            add 0 a 0 0 no
            take 0 b no
            drop 0 a = yes
            """);
        check("another field with the name is not held up", HELD + """
            rename 0 a e
            add 0 a 0 0 no
            drop 0 a = yes
            drop 0 e = no
            """);
    }

    private static void noneWaits() {
        check("no drop waits, or none any more: nothing is carried out, whatever is let go", HELD + """
            head 0 = 400
            letGo 0 a = 0
            renew 0 = 2
            head 0 = 400
            drop 0 b = no
            letGo 0 b = 1
            head 0 = 500
            renew 0 = 1
            letGo 0 c = 0
            renew 0 = 0
            retire 0 = 0
            head 0 = 500
            """);
        check("a drop that is carried out at once leaves those that wait", HELD + """
            drop 0 a = no
            drop 0 d = yes
            head 0 = 501
            drop 0 b = no
            head 0 = 502
            """);
    }

    private static void order() {
        check("in the order in which they were asked for", """
            schema
            add 0 a 0 0 no
            add 0 b 0 0 no
            add 0 c 0 0 no
            add 0 d 0 0 no
            form 0
            form 0
            take 0 a no
            take 0 b no
            take 0 d no
            take 1 c no
            drop 0 d = no
            drop 0 c = no
            drop 0 a = no
            drop 0 b = no
            head 0 = 404
            retire 0 = 3
            head 0 = 701
            words 0 5 = drop d>
            words 0 6 = drop a>
            words 0 7 = drop b>
            retire 1 = 1
            words 0 8 = drop c>
            """);
        check("one that was let go and waits on keeps its place", """
            schema
            add 0 a 0 0 no
            add 0 b 0 0 no
            add 0 c 0 0 no
            form 0
            form 0
            take 0 a no
            take 0 b no
            take 0 c no
            take 1 b no
            take 1 a no
            drop 0 b = no
            drop 0 c = no
            drop 0 a = no
            letGo 0 b = 0
            letGo 0 c = 1
            words 0 4 = drop c>
            letGo 0 a = 0
            retire 1 = 2
            words 0 5 = drop b>
            words 0 6 = drop a>
            """);
    }

    private static void fullWhileWaiting() {
        String held = """
            form 0
            take 0 a no
            take 0 b no
            take 0 c no
            drop 0 c = no
            drop 0 a = no
            drop 0 b = no
            """;
        check("if there are fewer than 24 versions: room for all", Run.versions(21) + held + """
            head 0 = 2003
            retire 0 = 3
            head 0 = 2300
            words 0 23 = drop b>
            """);
        check("room for two of three", Run.versions(22) + held + """
            head 0 = 2103
            retire 0 = 2
            head 0 = 2301
            words 0 22 = drop c>
            words 0 23 = drop a>
            field 0 23 b = 10
            drop 0 b = state
            """);
        check("room for one of three", Run.versions(23) + held + """
            head 0 = 2203
            letGo 0 b = 1
            head 0 = 2302
            words 0 23 = drop b>
            letGo 0 c = 0
            retire 0 = 0
            head 0 = 2302
            """);
        check("room for none", Run.versions(23) + held + """
            toggleNeed 0 a
            head 0 = 2303
            letGo 0 a = 0
            retire 0 = 0
            head 0 = 2303
            form 0
            take 1 a no = state
            take 1 d no = 1
            renew 1 = 1
            retire 1 = 0
            head 0 = 2303
            """);
    }

    /** Such a field can neither be taken by a form any more, nor be in front of another turn, split or join. */
    private static void whatWaits() {
        check("what waits may be renamed, needed, read and written still", HELD + """
            drop 0 a = no
            write 0 0 a 5 = -1
            read 0 0 a = 5
            rename 0 a e = 5
            toggleNeed 0 e = yes
            turn 0 e 1 = state
            split 0 e f g 10 = state
            join 0 e b f 10 = state
            join 0 b e f 10 = state
            drop 0 e = state
            renew 0 = 3
            read 0 0 e = 5
            write 0 0 e 6 = 5
            take 0 e yes = state
            letGo 0 e = 1
            """);
    }

    private static void renew() {
        check("Renewing a form makes it one for the head: nothing to do", HELD + """
            renew 0 = 3
            renew 0 = 3
            read 0 0 a = -1
            write 0 0 a 1 = -1
            write 0 0 c 1 = state
            """);
        check("it holds the traces of the fields that it held: fewer and more", HELD + """
            join 0 a b e 10
            renew 0 = 2
            read 0 0 e = -1
            read 0 0 a = bounds
            split 0 e f g 10
            split 0 g h i 10
            renew 0 = 4
            letGo 0 f = 0
            letGo 0 h = 0
            letGo 0 i = 0
            renew 0 = 1
            letGo 0 c = 0
            renew 0 = 0
            """);
    }

    private static void renewToWrite() {
        check("and may write those of fields that it could write: of a join, one of both", HELD + """
            letGo 0 b
            take 0 b no
            join 0 a b e 10
            renew 0 = 2
            write 0 0 e 5 = -1
            """);
        check("of a join, none of both", HELD + """
            take 0 a no
            take 0 b no
            join 0 a b e 10
            renew 0 = 2
            write 0 0 e 5 = state
            """);
        check("of a join, one of both that was let go", HELD + """
            letGo 0 a
            take 0 b no
            join 0 a b e 10
            renew 0 = 2
            read 0 0 e = -1
            write 0 0 e 5 = state
            """);
        check("of a split, both or none", HELD + """
            take 0 b no
            split 0 a e f 10
            split 0 b g h 10
            renew 0 = 5
            write 0 0 e 5 = -1
            write 0 0 f 6 = -1
            write 0 0 g 5 = state
            write 0 0 h 5 = state
            """);
        check("of a turn", HELD + """
            turn 0 a 2
            turn 0 c 0
            renew 0 = 3
            write 0 0 a 999 = -1
            write 0 0 a 1000 = argument
            write 0 0 c 9999 = state
            """);
        check("it holds what the traces are, not what has the name", HELD + """
            rename 0 a e
            rename 0 b a
            renew 0 = 3
            set 0 b 7
            read 0 0 a = 7
            read 0 0 b = bounds
            letGo 0 e = 0
            """);
        check("Drops are looked at behind that: what is held still waits on", HELD + """
            drop 0 a = no
            rename 0 a e
            renew 0 = 3
            head 0 = 501
            letGo 0 e = 1
            head 0 = 600
            """);
    }

    private static void read() {
        check("read: no such row", HELD + """
            read 0 -1 a = bounds
            read 0 2 a = bounds
            read 0 19 a = bounds
            read 0 20 a = bounds
            read 0 min a = bounds
            read 0 max a = bounds
            """);
        check("read: it holds no such field", HELD + """
            read 0 0 d = bounds
            read 0 0 e = bounds
            read 0 0 -1 = bounds
            read 0 0 26 = bounds
            read 0 0 min = bounds
            read 0 0 max = bounds
            rename 0 a e
            read 0 0 e = bounds
            read 0 0 a = -1
            """);
        check("read: the row is of another schema", HELD + """
            read 0 1 a = argument
            read 0 1 d = bounds
            read 0 1 e = bounds
            read 0 2 a = bounds
            read 1 1 a = bounds
            read 0 0 a = -1
            """);
        check("read: as the row is seen at the version of the form, ahead of it or behind it", """
            schema
            add 0 a 0 10 yes
            row 0 0
            row 0 1
            split 0 a b c 100
            form 0
            take 0 b no
            take 0 c no
            turn 0 b 1
            row 0 3
            set 1 a 1234
            set 2 b 1
            set 2 c 56
            read 0 0 b = 0
            read 0 0 c = 10
            read 0 1 b = 12
            read 0 1 c = 34
            read 0 2 b = 1
            read 0 2 c = 56
            standing 0 = 0
            standing 1 = 10000
            standing 2 = 30000
            """);
    }

    private static void writeRefused() {
        check("write: no such row", HELD + """
            write 0 -1 a 1 = bounds
            write 0 2 a 1 = bounds
            write 0 19 a 1 = bounds
            write 0 20 a 1 = bounds
            write 0 min a 1 = bounds
            write 0 max a 1 = bounds
            """);
        check("write: it holds no such field", HELD + """
            write 0 0 d 1 = bounds
            write 0 0 e 1 = bounds
            write 0 0 -1 1 = bounds
            write 0 0 26 1 = bounds
            write 0 0 min 1 = bounds
            write 0 0 max 1 = bounds
            """);
        check("write: the row is of another schema", HELD + """
            write 0 1 a 1 = argument
            write 0 1 b 0 = argument
            """);
        check("write: value: a value of the kind of the field", HELD + """
            take 0 c yes
            take 0 d yes
            write 0 0 a -1 = argument
            write 0 0 a -2 = argument
            write 0 0 a 10000 = argument
            write 0 0 a min = argument
            write 0 0 a max = argument
            write 0 0 a 0 = -1
            write 0 0 a 9999 = 0
            write 0 0 c -1 = argument
            write 0 0 c 2 = argument
            write 0 0 c 0 = -1
            write 0 0 c 1 = 0
            write 0 0 d -1 = argument
            write 0 0 d 1000 = argument
            write 0 0 d 0 = -1
            write 0 0 d 999 = 0
            read 0 0 a = 9999
            read 0 0 c = 1
            read 0 0 d = 999
            """);
        check("write: a value of the kind of the field in the version of the form, not of the row", """
            schema
            add 0 a 0 0 no
            form 0
            take 0 a yes
            turn 0 a 1
            row 0 2
            write 0 0 a 10000 = argument
            write 0 0 a 9999 = -1
            value 0 2 a = 1
            read 0 0 a = 9999
            """);
    }

    private static void writeNotAllowed() {
        check("write: the form may not write the field", HELD + """
            write 0 0 c 1 = state
            write 0 0 c 0 = state
            take 0 c yes
            write 0 0 c 1 = -1
            take 0 c no
            write 0 0 c 0 = state
            read 0 0 c = 1
            """);
        check("write: several at once", HELD + """
            write 0 1 d 1 = bounds
            write 0 1 e -1 = bounds
            write 0 0 d 1000 = bounds
            write 0 2 a -1 = bounds
            write 1 0 a -1 = bounds
            write 0 2 c 2 = bounds
            write 1 0 c 1 = bounds
            write 0 1 a -1 = argument
            write 0 1 c 1 = argument
            write 0 0 c 2 = argument
            write 0 0 c -1 = argument
            write 0 1 c 2 = argument
            write 0 0 c 1 = state
            """);
    }

    private static void write() {
        check("write: a needed field too, and the same value", """
            schema
            add 0 a 0 10 yes
            form 0
            take 0 a yes
            row 0 1
            write 0 0 a 10 = 10
            write 0 0 a -1 = argument
            write 0 0 a 0 = 10
            value 0 1 a = 0
            """);
        check("write: by a form behind the row; a default needs no entry in the box, another value does", """
            schema
            add 0 a 0 10 no
            row 0 0
            form 0
            take 0 a yes
            write 0 0 a 10 = 10
            standing 0 = 0
            write 0 0 a 11 = 10
            standing 0 = 100
            read 0 0 a = 11
            write 0 0 a 12 = 11
            standing 0 = 100
            write 0 0 a 10 = 12
            standing 0 = 0
            """);
        check("write: by a form ahead of the row", """
            schema
            add 0 a 0 10 no
            form 0
            take 0 a yes
            turn 0 a 2
            row 0 2
            set 0 a 7
            write 0 0 a 79 = 70
            value 0 2 a = 7
            standing 0 = 20100
            write 0 0 a 80 = 79
            value 0 2 a = 8
            standing 0 = 20000
            """);
    }

    private static void writeWithLosses() {
        check("write: the copy is moved with its losses", """
            schema
            add 0 a 0 10 no
            turn 0 a 2
            form 0
            take 0 a yes
            row 0 1
            set 0 a 79
            write 0 0 a 7 = 7
            standing 0 = 10000
            value 0 1 a = 79
            write 0 0 a 8 = 7
            standing 0 = 10001
            value 0 1 a = 80
            """);
        check("write: at the version of the row, nothing is moved", """
            schema
            add 0 a 0 10 no
            turn 0 a 2
            form 0
            take 0 a yes
            row 0 1
            set 0 a 79
            mover 0 2
            step 0 = 0
            standing 0 = 20100
            write 0 0 a 8 = 7
            standing 0 = 20100
            value 0 1 a = 80
            value 0 2 a = 8
            """);
    }

    private static void writeNearTheRow() {
        check("write: at the version of the row, what does not fit in the box of the next step is no loss yet", """
            schema
            add 0 a 0 10 no
            form 0
            take 0 a yes
            split 0 a b c 10
            row 0 2
            set 0 b 7
            set 0 c 79
            mover 0 1
            mover 0 2
            step 0 = 0
            standing 0 = 10100
            set 0 a 5 = 149
            write 0 0 a 6 = 5
            standing 0 = 10100
            step 1 = 0
            standing 0 = 20001
            """);
        check("write: and moved back to the version at which the row is, no farther", """
            schema
            add 0 a 0 10 no
            form 0
            take 0 a yes
            toggleNeed 0 a
            split 0 a b c 10
            row 0 3
            set 0 c 79
            mover 0 2
            mover 0 3
            step 0 = 0
            standing 0 = 20100
            set 0 a 5 = 89
            write 0 0 a 6 = 5
            standing 0 = 20100
            step 1 = 0
            standing 0 = 30001
            """);
    }

    private static void writeOverAll() {
        check("write: over all 23 steps", Run.versions(24) + """
            form 0
            take 0 a yes
            take 0 w yes
            row 0 0
            write 0 0 w 5 = 122
            write 0 0 a 6 = 100
            standing 0 = 200
            read 0 0 w = 5
            read 0 0 a = 6
            """);
    }

    public static void main(String[] args) {
        formCount();
        formNumbers();
        emptyForm();
        take();
        takeRefused();
        takeOfTraces();
        letGo();
        retire();
        heldUp();
        heldUpByTraces();
        noneWaits();
        order();
        fullWhileWaiting();
        whatWaits();
        renew();
        renewToWrite();
        read();
        writeRefused();
        writeNotAllowed();
        write();
        writeWithLosses();
        writeNearTheRow();
        writeOverAll();
        CHECKS.end();
    }
}
