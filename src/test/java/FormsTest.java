/** Promises 13 to 19: forms, and the drops that wait for them. */
public final class FormsTest {
    private static final Checks CHECKS = new Checks();

    /** Schemas 0 and 1; schema 0 with numbers a (default 11), b (22), c (33), none needed. */
    private static FieldMigrator withFields() {
        FieldMigrator m = new FieldMigrator();
        m.schema();
        m.schema();
        m.add(0, 0, 0, 11, false);
        m.add(0, 1, 0, 22, false);
        m.add(0, 2, 0, 33, false);
        return m;
    }

    private static void forms() {
        FieldMigrator m = withFields();
        CHECKS.fails("no schema", Checks.BOUNDS, () -> m.form(2));
        CHECKS.fails("schema -1", Checks.BOUNDS, () -> m.form(-1));
        for (int i = 0; i < 8; i++) {
            int number = i;
            CHECKS.due("form", number, () -> m.form(number % 2));
            CHECKS.due("holds nothing", 0, () -> m.renew(number));
        }
        m.retire(0);
        CHECKS.fails("a ninth form", Checks.STATE, () -> m.form(0));
        CHECKS.fails("form 8", Checks.BOUNDS, () -> m.renew(8));
        CHECKS.fails("form -1", Checks.BOUNDS, () -> m.renew(-1));
        CHECKS.fails("no schema goes first", Checks.BOUNDS, () -> m.form(2));
    }

    private static void take() {
        FieldMigrator m = withFields();
        CHECKS.fails("no form", Checks.BOUNDS, () -> m.take(0, 0, true));
        m.form(0);
        CHECKS.fails("no field", Checks.BOUNDS, () -> m.take(0, 3, true));
        CHECKS.fails("name -1", Checks.BOUNDS, () -> m.take(0, -1, true));
        CHECKS.fails("name 26", Checks.BOUNDS, () -> m.take(0, 26, true));
        m.add(0, 3, 0, 0, false);
        CHECKS.fails("a field of the head alone", Checks.BOUNDS, () -> m.take(0, 3, true));
        CHECKS.due("one", 1, () -> m.take(0, 0, true));
        CHECKS.due("two", 2, () -> m.take(0, 1, false));
        CHECKS.due("anew", 2, () -> m.take(0, 0, false));
        m.row(0, 4);
        CHECKS.fails("may not write any more", Checks.STATE, () -> m.write(0, 0, 0, 1));
        m.take(0, 0, true);
        CHECKS.due("may write again", -1, () -> m.write(0, 0, 0, 1));
        m.drop(0, 0);
        CHECKS.fails("waits, though held", Checks.STATE, () -> m.take(0, 0, true));
        m.drop(0, 2);
        CHECKS.fails("dropped", Checks.STATE, () -> m.take(0, 2, true));
        m.retire(0);
        CHECKS.fails("retired", Checks.STATE, () -> m.take(0, 1, true));
        CHECKS.fails("retired, no field", Checks.BOUNDS, () -> m.take(0, 9, true));
    }

    private static void takeByTraces() {
        FieldMigrator m = withFields();
        m.form(0);
        m.form(0);
        m.split(0, 0, 3, 4, 10);
        m.form(0);
        m.take(2, 3, false);
        CHECKS.due("a part waits", 0, () -> Checks.yes(m.drop(0, 3)));
        CHECKS.fails("a trace waits", Checks.STATE, () -> m.take(0, 0, false));
        m.letGo(2, 3);
        CHECKS.due("one trace is left", 1, () -> m.take(0, 0, false));
        CHECKS.due("it is held up by the whole", 0, () -> Checks.yes(m.drop(0, 4)));
        CHECKS.due("until then", 1, () -> m.letGo(0, 0));
        CHECKS.fails("no trace is left", Checks.STATE, () -> m.take(1, 0, false));
        m.join(0, 1, 2, 9, 10);
        CHECKS.due("by the joined one", 1, () -> m.take(1, 2, false));
        CHECKS.due("held up by a part", 0, () -> Checks.yes(m.drop(0, 9)));
        CHECKS.fails("the other part waits alike", Checks.STATE, () -> m.take(1, 1, false));
        CHECKS.due("head", 701, () -> m.head(0));
    }

    private static void letGo() {
        FieldMigrator m = withFields();
        CHECKS.fails("no form", Checks.BOUNDS, () -> m.letGo(0, 0));
        m.form(0);
        m.form(0);
        CHECKS.fails("not held", Checks.BOUNDS, () -> m.letGo(0, 0));
        CHECKS.fails("no name", Checks.BOUNDS, () -> m.letGo(0, 26));
        m.take(0, 0, true);
        m.take(0, 1, true);
        m.take(1, 1, true);
        m.drop(0, 1);
        m.drop(0, 0);
        CHECKS.due("held up by another still", 0, () -> m.letGo(0, 1));
        CHECKS.due("both wait", 302, () -> m.head(0));
        CHECKS.due("one goes", 1, () -> m.letGo(1, 1));
        CHECKS.due("one waits", 401, () -> m.head(0));
        CHECKS.fails("gone already", Checks.BOUNDS, () -> m.letGo(1, 1));
        CHECKS.due("the other goes", 1, () -> m.letGo(0, 0));
        CHECKS.due("none waits", 500, () -> m.head(0));
        CHECKS.same("first drop", Checks.wordsOf(m, 0, 4), "drop b>");
        CHECKS.same("second drop", Checks.wordsOf(m, 0, 5), "drop a>");
        m.take(0, 2, true);
        CHECKS.due("none waits for it", 0, () -> m.letGo(0, 2));
        m.take(0, 2, false);
        m.row(0, 5);
        CHECKS.fails("taken to read alone", Checks.STATE, () -> m.write(0, 0, 2, 1));
    }

    private static void retire() {
        FieldMigrator m = withFields();
        CHECKS.fails("no form", Checks.BOUNDS, () -> m.retire(0));
        m.form(0);
        m.form(0);
        m.row(0, 3);
        for (int name = 0; name < 3; name++) {
            m.take(0, name, true);
        }
        m.take(1, 1, true);
        m.drop(0, 2);
        m.drop(0, 1);
        m.drop(0, 0);
        CHECKS.due("two of three, in the order of asking", 2, () -> m.retire(0));
        CHECKS.due("one waits", 501, () -> m.head(0));
        CHECKS.same("first drop", Checks.wordsOf(m, 0, 4), "drop c>");
        CHECKS.same("second drop", Checks.wordsOf(m, 0, 5), "drop a>");
        CHECKS.fails("retired", Checks.STATE, () -> m.retire(0));
        CHECKS.fails("it holds nothing", Checks.BOUNDS, () -> m.letGo(0, 1));
        CHECKS.fails("it reads nothing", Checks.BOUNDS, () -> m.read(0, 0, 1));
        CHECKS.due("the last", 1, () -> m.retire(1));
        CHECKS.due("head", 600, () -> m.head(0));
    }

    private static void dropsWithoutRoom() {
        FieldMigrator m = withFields();
        m.form(0);
        m.form(0);
        m.take(0, 0, true);
        m.take(0, 1, true);
        m.drop(0, 1);
        m.drop(0, 0);
        for (int version = 4; version < 23; version++) {
            m.toggleNeed(0, 2);
        }
        CHECKS.due("room for one version", 2202, () -> m.head(0));
        CHECKS.due("one is carried out", 1, () -> m.retire(0));
        CHECKS.same("the one asked for first", Checks.wordsOf(m, 0, 23), "drop b>");
        CHECKS.due("the other waits", 2301, () -> m.head(0));
        CHECKS.due("no room", 0, () -> m.retire(1));
        CHECKS.due("it waits on", 2301, () -> m.head(0));
        CHECKS.fails("it waits, and there is no room", Checks.STATE, () -> Checks.yes(m.drop(0, 0)));
    }

    private static void renew() {
        FieldMigrator m = withFields();
        CHECKS.fails("no form", Checks.BOUNDS, () -> m.renew(0));
        m.form(0);
        m.take(0, 0, true);
        m.take(0, 1, false);
        m.take(0, 2, true);
        m.split(0, 0, 0, 3, 10);
        m.join(0, 1, 2, 1, 100);
        m.row(0, 5);
        CHECKS.due("the whole is there", -1, () -> m.read(0, 0, 2));
        CHECKS.due("two parts, one joined", 3, () -> m.renew(0));
        CHECKS.fails("its version is the head", Checks.BOUNDS, () -> m.read(0, 0, 2));
        CHECKS.due("write the first part", -1, () -> m.write(0, 0, 0, 5));
        CHECKS.due("write the second part", -1, () -> m.write(0, 0, 3, 6));
        CHECKS.due("write the joined, of which one could be written", -1, () -> m.write(0, 0, 1, 7));
        m.toggleNeed(0, 1);
        m.rename(0, 1, 9);
        CHECKS.due("rename and need change nothing", 3, () -> m.renew(0));
        CHECKS.due("by the new name", 7, () -> m.read(0, 0, 9));
        m.drop(0, 0);
        CHECKS.due("held up still", 3, () -> m.renew(0));
        CHECKS.due("it waits", 701, () -> m.head(0));
        m.form(0);
        m.take(1, 9, false);
        m.turn(0, 9, 1);
        CHECKS.due("turned", 1, () -> m.renew(1));
        m.row(0, 8);
        CHECKS.fails("not to be written as before", Checks.STATE, () -> m.write(1, 1, 9, 1));
        m.retire(0);
        CHECKS.fails("retired", Checks.STATE, () -> m.renew(0));
    }

    /** What a form let go, it could not write: the joined field is held by its other part alone. */
    private static void renewBehindLetGo() {
        FieldMigrator m = withFields();
        m.form(0);
        m.take(0, 0, true);
        m.take(0, 1, false);
        m.letGo(0, 0);
        m.join(0, 0, 1, 4, 10);
        CHECKS.due("the joined one", 1, () -> m.renew(0));
        m.row(0, 4);
        CHECKS.due("it reads", -1, () -> m.read(0, 0, 4));
        CHECKS.fails("and may not write", Checks.STATE, () -> m.write(0, 0, 4, 5));
    }

    private static void read() {
        FieldMigrator m = withFields();
        m.form(0);
        m.take(0, 0, true);
        m.row(1, 0);
        m.row(0, 3);
        CHECKS.fails("no form", Checks.BOUNDS, () -> m.read(1, 1, 0));
        CHECKS.fails("no row", Checks.BOUNDS, () -> m.read(0, 2, 0));
        CHECKS.fails("row -1", Checks.BOUNDS, () -> m.read(0, -1, 0));
        CHECKS.fails("not held", Checks.BOUNDS, () -> m.read(0, 1, 1));
        CHECKS.fails("not held, of another schema", Checks.BOUNDS, () -> m.read(0, 0, 1));
        CHECKS.fails("of another schema", Checks.ARGUMENT, () -> m.read(0, 0, 0));
        CHECKS.due("no value", -1, () -> m.read(0, 1, 0));
        m.set(1, 0, 9876);
        m.split(0, 0, 3, 4, 100);
        m.mover(0, 4);
        m.step(0);
        CHECKS.due("from a later version", 9876, () -> m.read(0, 1, 0));
        m.set(1, 4, 77);
        CHECKS.due("as seen", 9877, () -> m.read(0, 1, 0));
        CHECKS.due("the row stays", 40000, () -> m.standing(1));
        m.row(0, 0);
        CHECKS.due("from an earlier version", 11, () -> m.read(0, 2, 0));
        CHECKS.due("the earlier row stays", 0, () -> m.standing(2));
    }

    private static void write() {
        FieldMigrator m = withFields();
        m.form(0);
        m.take(0, 0, true);
        m.take(0, 1, false);
        m.row(1, 0);
        m.row(0, 3);
        CHECKS.fails("no form", Checks.BOUNDS, () -> m.write(1, 1, 0, -1));
        CHECKS.fails("no row", Checks.BOUNDS, () -> m.write(0, 2, 0, -1));
        CHECKS.fails("not held", Checks.BOUNDS, () -> m.write(0, 1, 2, -1));
        CHECKS.fails("of another schema", Checks.ARGUMENT, () -> m.write(0, 0, 0, 1));
        CHECKS.fails("value -1", Checks.ARGUMENT, () -> m.write(0, 1, 0, -1));
        CHECKS.fails("value 10000", Checks.ARGUMENT, () -> m.write(0, 1, 0, 10000));
        CHECKS.fails("value ahead of may not", Checks.ARGUMENT, () -> m.write(0, 1, 1, -1));
        CHECKS.fails("may not", Checks.STATE, () -> m.write(0, 1, 1, 1));
        CHECKS.due("in its own version", -1, () -> m.write(0, 1, 0, 9999));
        CHECKS.due("before", 9999, () -> m.write(0, 1, 0, 1234));
        m.turn(0, 0, 2);
        m.mover(0, 4);
        m.step(0);
        CHECKS.due("1234 is in the box", 40100, () -> m.standing(1));
        CHECKS.due("over a step", 1234, () -> m.write(0, 1, 0, 5678));
        CHECKS.due("the value in the row", 567, () -> m.value(1, 4, 0));
        CHECKS.due("5678 is in the box", 40100, () -> m.standing(1));
        CHECKS.due("5678 is seen", 5678, () -> m.value(1, 3, 0));
        CHECKS.due("a multiple of ten", 5678, () -> m.write(0, 1, 0, 560));
        CHECKS.due("the box is empty", 40000, () -> m.standing(1));
        m.set(1, 0, 3);
        m.split(0, 1, 1, 5, 10);
        CHECKS.due("from a row behind the version", 30, () -> m.write(0, 1, 0, 39));
        CHECKS.due("which is here then", 3, () -> m.value(1, 4, 0));
    }

    /** A write to an earlier version throws what is in the box away, which is a loss. */
    private static void writeWithLosses() {
        FieldMigrator m = withFields();
        m.join(0, 0, 1, 4, 10);
        m.row(0, 3);
        m.set(0, 0, 100);
        m.set(0, 1, 100);
        m.form(0);
        m.take(0, 4, true);
        CHECKS.due("joined", 1100, () -> m.write(0, 0, 4, 1100));
        CHECKS.due("same value, no loss", 30000, () -> m.standing(0));
        CHECKS.due("same values", 100, () -> m.value(0, 3, 1));
        CHECKS.due("another value", 1100, () -> m.write(0, 0, 4, 1234));
        CHECKS.due("a loss", 30001, () -> m.standing(0));
        CHECKS.due("first part", 123, () -> m.value(0, 3, 0));
        CHECKS.due("second part", 4, () -> m.value(0, 3, 1));
    }

    public static void main(String[] args) {
        forms();
        take();
        takeByTraces();
        letGo();
        retire();
        dropsWithoutRoom();
        renew();
        renewBehindLetGo();
        read();
        write();
        writeWithLosses();
        CHECKS.end();
    }
}
