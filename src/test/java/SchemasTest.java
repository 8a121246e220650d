/** Promises 1 to 12: schemas and the steps from version to version. */
public final class SchemasTest {
    private static final Checks CHECKS = new Checks();

    private static FieldMigrator withSchema() {
        FieldMigrator m = new FieldMigrator();
        m.schema();
        return m;
    }

    /** A schema 0 at version 23, with needed numbers a to w. */
    private static FieldMigrator full() {
        FieldMigrator m = withSchema();
        for (int name = 0; name < 23; name++) {
            m.add(0, name, 0, name, true);
        }
        return m;
    }

    private static void newObject() {
        FieldMigrator m = new FieldMigrator();
        CHECKS.fails("head of none", Checks.BOUNDS, () -> m.head(0));
        CHECKS.fails("standing of none", Checks.BOUNDS, () -> m.standing(0));
        CHECKS.fails("retire of none", Checks.BOUNDS, () -> m.retire(0));
        CHECKS.fails("undo of none", Checks.BOUNDS, () -> m.undo(0));
    }

    private static void schemas() {
        FieldMigrator m = new FieldMigrator();
        for (int i = 0; i < 4; i++) {
            int number = i;
            CHECKS.due("schema", number, () -> m.schema());
            CHECKS.due("its head", 0, () -> m.head(number));
        }
        CHECKS.fails("a fifth schema", Checks.STATE, () -> m.schema());
        m.add(1, 0, 0, 0, false);
        CHECKS.due("another schema stays", 0, () -> m.head(0));
        CHECKS.due("the changed schema", 100, () -> m.head(1));
        CHECKS.due("fields are numbered for each schema", 0, () -> m.add(2, 0, 0, 0, false));
    }

    private static void add() {
        FieldMigrator m = withSchema();
        CHECKS.fails("schema -1", Checks.BOUNDS, () -> m.add(-1, 99, 0, 0, true));
        CHECKS.fails("schema 1", Checks.BOUNDS, () -> m.add(1, 0, 0, 0, true));
        CHECKS.fails("name -1", Checks.ARGUMENT, () -> m.add(0, -1, 0, 0, true));
        CHECKS.fails("name 26", Checks.ARGUMENT, () -> m.add(0, 26, 0, 0, true));
        CHECKS.fails("kind -1", Checks.ARGUMENT, () -> m.add(0, 0, -1, 0, true));
        CHECKS.fails("kind 3", Checks.ARGUMENT, () -> m.add(0, 0, 3, 0, true));
        int[] tooGreat = {10000, 2, 1000};
        for (int kind = 0; kind < 3; kind++) {
            int k = kind;
            CHECKS.fails("default -1", Checks.ARGUMENT, () -> m.add(0, 0, k, -1, false));
            CHECKS.fails("default too great", Checks.ARGUMENT, () -> m.add(0, 0, k, tooGreat[k], false));
            CHECKS.due("greatest default", k, () -> m.add(0, k, k, tooGreat[k] - 1, k == 1));
        }
        CHECKS.due("head", 300, () -> m.head(0));
        CHECKS.due("a", 0, () -> m.field(0, 3, 0));
        CHECKS.due("b is needed", 14, () -> m.field(0, 3, 1));
        CHECKS.due("c", 22, () -> m.field(0, 3, 2));
        CHECKS.fails("a name taken", Checks.STATE, () -> m.add(0, 2, 0, 0, false));
        CHECKS.fails("argument ahead of state", Checks.ARGUMENT, () -> m.add(0, 2, 0, 10000, false));
        CHECKS.due("name 25", 3, () -> m.add(0, 25, 1, 0, false));
        FieldMigrator f = full();
        CHECKS.due("head of 24 versions", 2300, () -> f.head(0));
        CHECKS.fails("a version 24", Checks.STATE, () -> f.add(0, 25, 0, 0, false));
    }

    private static void rename() {
        FieldMigrator m = withSchema();
        m.add(0, 0, 0, 1, true);
        m.add(0, 1, 1, 1, false);
        CHECKS.fails("no schema", Checks.BOUNDS, () -> m.rename(1, 0, 26));
        CHECKS.fails("no field", Checks.BOUNDS, () -> m.rename(0, 2, 26));
        CHECKS.fails("name -1", Checks.BOUNDS, () -> m.rename(0, -1, 5));
        CHECKS.fails("name 26", Checks.BOUNDS, () -> m.rename(0, 26, 5));
        CHECKS.fails("other -1", Checks.ARGUMENT, () -> m.rename(0, 0, -1));
        CHECKS.fails("other 26", Checks.ARGUMENT, () -> m.rename(0, 0, 26));
        CHECKS.fails("other taken", Checks.STATE, () -> m.rename(0, 0, 1));
        CHECKS.fails("its own name", Checks.STATE, () -> m.rename(0, 0, 0));
        CHECKS.due("head", 3, () -> m.rename(0, 0, 25));
        CHECKS.due("gone name", -1, () -> m.field(0, 3, 0));
        CHECKS.due("new name, needed still", 3, () -> m.field(0, 3, 25));
        CHECKS.due("b stays", 11, () -> m.field(0, 3, 1));
        CHECKS.due("the version ahead stays", 3, () -> m.field(0, 2, 0));
        CHECKS.due("not needed", 4, () -> m.rename(0, 1, 0));
        CHECKS.due("not needed still", 11, () -> m.field(0, 4, 0));
        FieldMigrator f = full();
        CHECKS.fails("full", Checks.STATE, () -> f.rename(0, 0, 25));
    }

    private static void turn() {
        FieldMigrator m = withSchema();
        m.add(0, 0, 0, 987, true);
        CHECKS.fails("no schema", Checks.BOUNDS, () -> m.turn(-1, 0, 3));
        CHECKS.fails("no field", Checks.BOUNDS, () -> m.turn(0, 1, 3));
        CHECKS.fails("kind -1", Checks.ARGUMENT, () -> m.turn(0, 0, -1));
        CHECKS.fails("kind 3", Checks.ARGUMENT, () -> m.turn(0, 0, 3));
        CHECKS.fails("same kind", Checks.STATE, () -> m.turn(0, 0, 0));
        CHECKS.due("number to tens", 1, () -> m.turn(0, 0, 2));
        CHECKS.due("field 1", 15, () -> m.field(0, 2, 0));
        CHECKS.due("tens to number", 2, () -> m.turn(0, 0, 0));
        CHECKS.due("number to flag", 3, () -> m.turn(0, 0, 1));
        CHECKS.due("flag to tens", 4, () -> m.turn(0, 0, 2));
        CHECKS.due("tens to flag", 5, () -> m.turn(0, 0, 1));
        CHECKS.due("flag to number", 6, () -> m.turn(0, 0, 0));
        CHECKS.due("last field", 63, () -> m.field(0, 7, 0));
        long[] defaults = {987, 98, 980, 1, 1, 1, 1};
        for (int version = 1; version <= 7; version++) {
            int v = version;
            int row = m.row(0, v);
            CHECKS.due("default at " + v, defaults[v - 1], () -> m.value(row, v, 0));
        }
        m.add(0, 1, 0, 0, false);
        m.turn(0, 1, 1);
        CHECKS.due("not needed alike", 81, () -> m.field(0, 9, 1));
        m.form(0);
        m.take(0, 1, true);
        m.drop(0, 1);
        CHECKS.fails("its drop waits", Checks.STATE, () -> m.turn(0, 1, 0));
        FieldMigrator f = full();
        CHECKS.fails("full", Checks.STATE, () -> f.turn(0, 0, 1));
    }

    private static void split() {
        FieldMigrator m = withSchema();
        m.add(0, 0, 0, 9999, true);
        m.add(0, 1, 1, 0, false);
        m.add(0, 2, 0, 5, false);
        CHECKS.fails("no schema", Checks.BOUNDS, () -> m.split(1, 0, 3, 3, 1));
        CHECKS.fails("no field", Checks.BOUNDS, () -> m.split(0, 5, 3, 3, 1));
        CHECKS.fails("first -1", Checks.ARGUMENT, () -> m.split(0, 0, -1, 4, 10));
        CHECKS.fails("first 26", Checks.ARGUMENT, () -> m.split(0, 0, 26, 4, 10));
        CHECKS.fails("second -1", Checks.ARGUMENT, () -> m.split(0, 0, 3, -1, 10));
        CHECKS.fails("second 26", Checks.ARGUMENT, () -> m.split(0, 0, 3, 26, 10));
        CHECKS.fails("divisor 1", Checks.ARGUMENT, () -> m.split(0, 0, 3, 4, 1));
        CHECKS.fails("divisor 101", Checks.ARGUMENT, () -> m.split(0, 0, 3, 4, 101));
        CHECKS.fails("divisor 0", Checks.ARGUMENT, () -> m.split(0, 0, 3, 4, 0));
        CHECKS.fails("same names", Checks.ARGUMENT, () -> m.split(0, 0, 3, 3, 10));
        CHECKS.fails("a flag", Checks.STATE, () -> m.split(0, 1, 3, 4, 10));
        CHECKS.fails("first taken", Checks.STATE, () -> m.split(0, 0, 1, 4, 10));
        CHECKS.fails("second taken", Checks.STATE, () -> m.split(0, 0, 4, 2, 10));
        CHECKS.due("its own name is free", 3, () -> m.split(0, 0, 4, 0, 100));
        CHECKS.due("first part", 33, () -> m.field(0, 4, 4));
        CHECKS.due("second part", 43, () -> m.field(0, 4, 0));
        int row = m.row(0, 4);
        CHECKS.due("first default", 99, () -> m.value(row, 4, 4));
        CHECKS.due("second default", 99, () -> m.value(row, 4, 0));
        CHECKS.due("divisor 2, its name first", 5, () -> m.split(0, 2, 2, 7, 2));
        CHECKS.due("not needed first", 50, () -> m.field(0, 5, 2));
        CHECKS.due("not needed second", 60, () -> m.field(0, 5, 7));
        m.toggleNeed(0, 7);
        m.toggleNeed(0, 2);
        int other = m.row(0, 7);
        CHECKS.due("half of 5", 2, () -> m.value(other, 7, 2));
        CHECKS.due("rest of 5", 1, () -> m.value(other, 7, 7));
        m.form(0);
        m.take(0, 0, true);
        m.drop(0, 0);
        CHECKS.fails("its drop waits", Checks.STATE, () -> m.split(0, 0, 20, 21, 10));
        FieldMigrator f = full();
        CHECKS.fails("full", Checks.STATE, () -> f.split(0, 0, 24, 25, 10));
    }

    /** The most fields that a schema can have: all steps but the first are splits. */
    private static void mostFields() {
        FieldMigrator m = withSchema();
        m.add(0, 0, 0, 9999, true);
        for (int i = 1; i <= 22; i++) {
            int part = i;
            CHECKS.due("split " + part, 2 * part - 1, () -> m.split(0, part - 1, part - 1, part, 2));
        }
        CHECKS.due("the last field", 443, () -> m.field(0, 23, 22));
        int row = m.row(0, 23);
        CHECKS.due("default of the last but one", 0, () -> m.value(row, 23, 21));
        CHECKS.due("default of the last", 1, () -> m.set(row, 22, 77));
        CHECKS.due("it is set", 77, () -> m.value(row, 23, 22));
        CHECKS.due("seen ahead of the last split", 77, () -> m.value(row, 22, 21));
        CHECKS.due("seen at the first version", 9999, () -> m.value(row, 1, 0));
        CHECKS.due("the row stays", 230000, () -> m.standing(row));
    }

    private static void join() {
        FieldMigrator m = withSchema();
        m.add(0, 0, 0, 500, false);
        m.add(0, 1, 0, 7, true);
        m.add(0, 2, 2, 3, false);
        m.add(0, 3, 0, 4, false);
        CHECKS.fails("no schema", Checks.BOUNDS, () -> m.join(1, 0, 1, 26, 1));
        CHECKS.fails("no first", Checks.BOUNDS, () -> m.join(0, 9, 1, 26, 1));
        CHECKS.fails("no second", Checks.BOUNDS, () -> m.join(0, 0, 9, 26, 1));
        CHECKS.fails("the same, which is not there", Checks.BOUNDS, () -> m.join(0, 9, 9, 4, 10));
        CHECKS.fails("the same", Checks.ARGUMENT, () -> m.join(0, 0, 0, 4, 10));
        CHECKS.fails("the same, no number", Checks.ARGUMENT, () -> m.join(0, 2, 2, 4, 10));
        CHECKS.fails("name -1", Checks.ARGUMENT, () -> m.join(0, 0, 1, -1, 10));
        CHECKS.fails("name 26", Checks.ARGUMENT, () -> m.join(0, 0, 1, 26, 10));
        CHECKS.fails("factor 1", Checks.ARGUMENT, () -> m.join(0, 0, 1, 4, 1));
        CHECKS.fails("factor 101", Checks.ARGUMENT, () -> m.join(0, 0, 1, 4, 101));
        CHECKS.fails("second no number", Checks.STATE, () -> m.join(0, 0, 2, 4, 10));
        CHECKS.fails("first no number", Checks.STATE, () -> m.join(0, 2, 0, 4, 10));
        CHECKS.fails("a third has the name", Checks.STATE, () -> m.join(0, 0, 1, 3, 10));
        CHECKS.due("the name of the second", 4, () -> m.join(0, 0, 1, 1, 100));
        CHECKS.due("needed as one was", 43, () -> m.field(0, 5, 1));
        CHECKS.due("first gone", -1, () -> m.field(0, 5, 0));
        int row = m.row(0, 5);
        CHECKS.due("default is at most 9999", 9999, () -> m.value(row, 5, 1));
        CHECKS.due("the name of the first", 5, () -> m.join(0, 1, 3, 1, 2));
        m.add(0, 0, 0, 12, false);
        m.add(0, 3, 0, 34, false);
        CHECKS.due("both not needed", 8, () -> m.join(0, 0, 3, 25, 100));
        CHECKS.due("not needed", 80, () -> m.field(0, 9, 25));
        m.toggleNeed(0, 25);
        int other = m.row(0, 10);
        CHECKS.due("default 100 * 12 + 34", 1234, () -> m.value(other, 10, 25));
        m.form(0);
        m.take(0, 1, false);
        m.drop(0, 1);
        CHECKS.fails("drop of the first waits", Checks.STATE, () -> m.join(0, 1, 25, 0, 10));
        CHECKS.fails("drop of the second waits", Checks.STATE, () -> m.join(0, 25, 1, 0, 10));
        FieldMigrator f = full();
        CHECKS.fails("full", Checks.STATE, () -> f.join(0, 0, 1, 24, 10));
    }

    private static void toggleNeed() {
        FieldMigrator m = withSchema();
        m.add(0, 4, 2, 70, false);
        CHECKS.fails("no schema", Checks.BOUNDS, () -> Checks.yes(m.toggleNeed(4, 4)));
        CHECKS.fails("no field", Checks.BOUNDS, () -> Checks.yes(m.toggleNeed(0, 0)));
        CHECKS.due("needed", 1, () -> Checks.yes(m.toggleNeed(0, 4)));
        CHECKS.due("not needed", 0, () -> Checks.yes(m.toggleNeed(0, 4)));
        CHECKS.due("version 1", 2, () -> m.field(0, 1, 4));
        CHECKS.due("version 2", 5, () -> m.field(0, 2, 4));
        CHECKS.due("version 3", 2, () -> m.field(0, 3, 4));
        m.form(0);
        m.take(0, 4, false);
        m.drop(0, 4);
        CHECKS.due("of a field that waits", 1, () -> Checks.yes(m.toggleNeed(0, 4)));
        CHECKS.due("that waits still", 401, () -> m.head(0));
        FieldMigrator f = full();
        CHECKS.fails("full", Checks.STATE, () -> Checks.yes(f.toggleNeed(0, 0)));
    }

    private static void drop() {
        FieldMigrator m = withSchema();
        m.schema();
        m.add(0, 0, 0, 1, true);
        m.add(0, 1, 0, 1, true);
        CHECKS.fails("no schema", Checks.BOUNDS, () -> Checks.yes(m.drop(2, 0)));
        CHECKS.fails("no field", Checks.BOUNDS, () -> Checks.yes(m.drop(0, 2)));
        CHECKS.due("at once", 1, () -> Checks.yes(m.drop(0, 0)));
        CHECKS.due("gone", -1, () -> m.field(0, 3, 0));
        CHECKS.due("there ahead of it", 3, () -> m.field(0, 2, 0));
        CHECKS.fails("gone already", Checks.BOUNDS, () -> Checks.yes(m.drop(0, 0)));
        m.form(0);
        m.take(0, 1, true);
        CHECKS.due("waits", 0, () -> Checks.yes(m.drop(0, 1)));
        CHECKS.due("head and one waiting", 301, () -> m.head(0));
        CHECKS.fails("waits already", Checks.STATE, () -> Checks.yes(m.drop(0, 1)));
        m.add(1, 0, 0, 0, false);
        CHECKS.due("held up in another schema alone", 1, () -> Checks.yes(m.drop(1, 0)));
        FieldMigrator f = full();
        CHECKS.fails("full", Checks.STATE, () -> Checks.yes(f.drop(0, 0)));
        f.form(0);
        f.take(0, 1, false);
        CHECKS.fails("full and held up", Checks.STATE, () -> Checks.yes(f.drop(0, 1)));
    }

    private static void headAndField() {
        FieldMigrator m = withSchema();
        CHECKS.fails("head of -1", Checks.BOUNDS, () -> m.head(-1));
        CHECKS.fails("head of 1", Checks.BOUNDS, () -> m.head(1));
        CHECKS.due("head", 0, () -> m.head(0));
        for (int i = 0; i < 3; i++) {
            m.add(0, i, 0, 0, false);
        }
        m.form(0);
        for (int i = 0; i < 3; i++) {
            m.take(0, i, false);
            m.drop(0, i);
        }
        CHECKS.due("three wait", 303, () -> m.head(0));
        CHECKS.fails("no schema", Checks.BOUNDS, () -> m.field(1, 0, 26));
        CHECKS.fails("version -1", Checks.BOUNDS, () -> m.field(0, -1, 26));
        CHECKS.fails("version 4", Checks.BOUNDS, () -> m.field(0, 4, 0));
        CHECKS.fails("name -1", Checks.ARGUMENT, () -> m.field(0, 3, -1));
        CHECKS.fails("name 26", Checks.ARGUMENT, () -> m.field(0, 3, 26));
        CHECKS.due("version 0 has none", -1, () -> m.field(0, 0, 0));
        CHECKS.due("not yet", -1, () -> m.field(0, 1, 1));
        CHECKS.due("number 1", 10, () -> m.field(0, 2, 1));
    }

    private static void text() {
        FieldMigrator m = withSchema();
        m.add(0, 0, 0, 0, false);
        m.add(0, 25, 0, 0, false);
        m.rename(0, 0, 1);
        m.turn(0, 25, 1);
        m.split(0, 1, 2, 1, 10);
        m.join(0, 2, 1, 7, 10);
        m.toggleNeed(0, 7);
        m.drop(0, 7);
        String[] words = {"add> a", "add> z", "rename a> b", "turn z> z", "split b> c b", "join c b> h",
            "need h> h", "drop h>"};
        for (int i = 0; i < words.length; i++) {
            CHECKS.same("text " + i, Checks.wordsOf(m, 0, i + 1), words[i]);
        }
        CHECKS.fails("no schema", Checks.BOUNDS, () -> m.text(1, 1, 0));
        CHECKS.fails("version 0", Checks.BOUNDS, () -> m.text(0, 0, 0));
        CHECKS.fails("version 9", Checks.BOUNDS, () -> m.text(0, 9, 0));
        CHECKS.fails("place -1", Checks.BOUNDS, () -> m.text(0, 1, -1));
        CHECKS.due("last place", 'a', () -> m.text(0, 1, 5));
        CHECKS.fails("behind it", Checks.BOUNDS, () -> m.text(0, 1, 6));
    }

    public static void main(String[] args) {
        newObject();
        schemas();
        add();
        rename();
        turn();
        split();
        mostFields();
        join();
        toggleNeed();
        drop();
        headAndField();
        text();
        CHECKS.end();
    }
}
