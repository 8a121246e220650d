/** Promises 20 to 24: rows, and how they are seen at other versions. */
public final class RowsTest {
    private static final Checks CHECKS = new Checks();

    private static FieldMigrator withSchema() {
        FieldMigrator m = new FieldMigrator();
        m.schema();
        return m;
    }

    private static void rows() {
        FieldMigrator m = withSchema();
        m.add(0, 0, 0, 11, true);
        m.add(0, 1, 2, 22, false);
        m.toggleNeed(0, 0);
        m.toggleNeed(0, 1);
        CHECKS.fails("no schema", Checks.BOUNDS, () -> m.row(1, 0));
        CHECKS.fails("version -1", Checks.BOUNDS, () -> m.row(0, -1));
        CHECKS.fails("version 5", Checks.BOUNDS, () -> m.row(0, 5));
        CHECKS.due("row 0", 0, () -> m.row(0, 2));
        CHECKS.due("needed", 11, () -> m.value(0, 2, 0));
        CHECKS.due("not needed", -1, () -> m.value(0, 2, 1));
        CHECKS.due("row 1", 1, () -> m.row(0, 4));
        CHECKS.due("not needed any more", -1, () -> m.value(1, 4, 0));
        CHECKS.due("needed from then on", 22, () -> m.value(1, 4, 1));
        CHECKS.due("it stands", 40000, () -> m.standing(1));
        for (int i = 2; i < 20; i++) {
            m.row(0, 0);
        }
        CHECKS.fails("a row 20", Checks.STATE, () -> m.row(0, 0));
        CHECKS.fails("it does not stand", Checks.BOUNDS, () -> m.standing(20));
        CHECKS.fails("a row 20 at no version", Checks.BOUNDS, () -> m.row(0, 5));
    }

    private static void set() {
        FieldMigrator m = withSchema();
        for (int kind = 0; kind < 3; kind++) {
            m.add(0, kind, kind, 1, false);
            m.add(0, 10 + kind, kind, 1, true);
        }
        m.row(0, 6);
        int[] greatest = {9999, 1, 999};
        CHECKS.fails("no row", Checks.BOUNDS, () -> m.set(1, 0, -2));
        CHECKS.fails("no field", Checks.BOUNDS, () -> m.set(0, 3, -2));
        CHECKS.fails("name 26", Checks.BOUNDS, () -> m.set(0, 26, 0));
        for (int kind = 0; kind < 3; kind++) {
            int k = kind;
            CHECKS.fails("too great", Checks.ARGUMENT, () -> m.set(0, k, greatest[k] + 1));
            CHECKS.fails("too low", Checks.ARGUMENT, () -> m.set(0, k, -2));
            CHECKS.due("greatest", -1, () -> m.set(0, k, greatest[k]));
            CHECKS.due("none", greatest[k], () -> m.set(0, k, -1));
            CHECKS.due("lowest", -1, () -> m.set(0, k, 0));
            CHECKS.due("before", 0, () -> m.set(0, k, 1));
            CHECKS.fails("none of a needed one", Checks.ARGUMENT, () -> m.set(0, 10 + k, -1));
            CHECKS.due("default of a needed one", 1, () -> m.set(0, 10 + k, 0));
        }
        m.toggleNeed(0, 10);
        CHECKS.fails("needed at the version of the row", Checks.ARGUMENT, () -> m.set(0, 10, -1));
        m.row(0, 7);
        CHECKS.due("not needed at that of this row", -1, () -> m.set(1, 10, -1));
        m.rename(0, 0, 20);
        CHECKS.fails("a name of a later version", Checks.BOUNDS, () -> m.set(1, 20, 1));
    }

    private static void value() {
        FieldMigrator m = withSchema();
        m.add(0, 0, 0, 11, false);
        m.row(0, 1);
        CHECKS.fails("no row", Checks.BOUNDS, () -> m.value(1, 1, 0));
        CHECKS.fails("version -1", Checks.BOUNDS, () -> m.value(0, -1, 0));
        CHECKS.fails("version 2", Checks.BOUNDS, () -> m.value(0, 2, 0));
        CHECKS.fails("no field", Checks.BOUNDS, () -> m.value(0, 1, 1));
        CHECKS.fails("no field in version 0", Checks.BOUNDS, () -> m.value(0, 0, 0));
        CHECKS.fails("name -1", Checks.BOUNDS, () -> m.value(0, 1, -1));
        CHECKS.fails("name 26", Checks.BOUNDS, () -> m.value(0, 1, 26));
        m.rename(0, 0, 4);
        m.set(0, 0, 5);
        CHECKS.due("by its name there", 5, () -> m.value(0, 2, 4));
        CHECKS.due("the row stays", 10000, () -> m.standing(0));
    }

    /** One turn of a field of a row, up from the first kind, with what comes back. */
    private static void turned(int from, int to, int value, int want, int wantBack) {
        FieldMigrator m = withSchema();
        m.add(0, 0, from, 0, false);
        m.turn(0, 0, to);
        m.row(0, 1);
        m.set(0, 0, value);
        String what = "turn " + from + " to " + to + " of " + value;
        CHECKS.due(what, want, () -> m.value(0, 2, 0));
        m.row(0, 2);
        m.set(1, 0, want);
        CHECKS.due(what + " and back without a box", wantBack, () -> m.value(1, 1, 0));
        m.mover(0, 2);
        m.step(0);
        CHECKS.due(what + " fills the box", wantBack == value ? 20000 : 20100, () -> m.standing(0));
        CHECKS.due(what + " and back", value, () -> m.value(0, 1, 0));
    }

    private static void turns() {
        turned(0, 1, 0, 0, 0);
        turned(0, 1, 9999, 1, 1);
        turned(0, 1, -1, -1, -1);
        turned(0, 2, 9999, 999, 9990);
        turned(0, 2, 9, 0, 0);
        turned(0, 2, -1, -1, -1);
        turned(1, 0, 1, 1, 1);
        turned(1, 2, 1, 1, 1);
        turned(1, 2, 0, 0, 0);
        turned(2, 0, 999, 9990, 999);
        turned(2, 1, 999, 1, 1);
        turned(2, 1, 0, 0, 0);
        turned(2, 0, -1, -1, -1);
    }

    private static void splitAndJoin() {
        FieldMigrator m = withSchema();
        m.add(0, 0, 0, 50, false);
        m.split(0, 0, 0, 1, 100);
        m.join(0, 0, 1, 0, 100);
        m.row(0, 1);
        m.set(0, 0, 9876);
        CHECKS.due("quotient", 98, () -> m.value(0, 2, 0));
        CHECKS.due("remainder", 76, () -> m.value(0, 2, 1));
        CHECKS.due("joined", 9876, () -> m.value(0, 3, 0));
        m.set(0, 0, -1);
        CHECKS.due("none", -1, () -> m.value(0, 2, 0));
        CHECKS.due("none either", -1, () -> m.value(0, 2, 1));
        CHECKS.due("none joined", -1, () -> m.value(0, 3, 0));
        m.row(0, 2);
        m.set(1, 0, 100);
        CHECKS.due("one is none, down", -1, () -> m.value(1, 1, 0));
        CHECKS.due("one is none, up", -1, () -> m.value(1, 3, 0));
        m.set(1, 1, 7);
        CHECKS.due("at most 9999, down", 9999, () -> m.value(1, 1, 0));
        CHECKS.due("at most 9999, up", 9999, () -> m.value(1, 3, 0));
        m.set(1, 0, -1);
        CHECKS.due("the other is none, down", -1, () -> m.value(1, 1, 0));
        CHECKS.due("the other is none, up", -1, () -> m.value(1, 3, 0));
        m.row(0, 3);
        m.set(2, 0, 1234);
        CHECKS.due("down over join", 12, () -> m.value(2, 2, 0));
        CHECKS.due("down over join", 34, () -> m.value(2, 2, 1));
        CHECKS.due("down over both", 1234, () -> m.value(2, 1, 0));
    }

    private static void needed() {
        FieldMigrator m = withSchema();
        m.add(0, 0, 0, 42, false);
        m.toggleNeed(0, 0);
        m.toggleNeed(0, 0);
        m.row(0, 1);
        m.mover(0, 2);
        m.mover(0, 3);
        m.mover(0, 1);
        CHECKS.due("default where it is needed", 42, () -> m.value(0, 2, 0));
        m.step(0);
        CHECKS.due("none is in the box", 20100, () -> m.standing(0));
        CHECKS.due("none is seen again", -1, () -> m.value(0, 1, 0));
        m.step(1);
        CHECKS.due("the default stays", 42, () -> m.value(0, 3, 0));
        CHECKS.due("back to none", -1, () -> m.value(0, 1, 0));
        m.set(0, 0, -1);
        CHECKS.due("down to where it is needed", 42, () -> m.value(0, 2, 0));
        m.step(0);
        CHECKS.due("none of the way down too", 20200, () -> m.standing(0));
        CHECKS.due("and up again", -1, () -> m.value(0, 3, 0));
        m.set(0, 0, 43);
        m.step(2);
        CHECKS.due("one of the box does not fit", 10101, () -> m.standing(0));
        CHECKS.due("so it is lost", 43, () -> m.value(0, 1, 0));
    }

    private static void addAndDrop() {
        FieldMigrator m = withSchema();
        m.add(0, 0, 0, 42, true);
        m.add(0, 1, 0, 43, false);
        m.drop(0, 0);
        m.drop(0, 1);
        m.row(0, 0);
        CHECKS.due("default of a needed one", 42, () -> m.value(0, 2, 0));
        CHECKS.due("default of one not needed", 43, () -> m.value(0, 2, 1));
        m.row(0, 4);
        CHECKS.due("down over drop, needed", 42, () -> m.value(1, 2, 0));
        CHECKS.due("down over drop, not needed", -1, () -> m.value(1, 3, 1));
        m.row(0, 2);
        m.set(2, 0, 7);
        m.set(2, 1, 8);
        m.mover(0, 4);
        m.mover(0, 0);
        m.step(0);
        m.step(0);
        m.step(0);
        m.step(0);
        m.step(0);
        m.step(0);
        CHECKS.due("both in the box", 40200, () -> m.standing(2));
        CHECKS.due("out of the box", 7, () -> m.value(2, 2, 0));
        CHECKS.due("out of the box", 8, () -> m.value(2, 2, 1));
        for (int i = 0; i < 12; i++) {
            m.step(1);
        }
        CHECKS.fails("all are there", Checks.STATE, () -> m.step(1));
        CHECKS.due("in the box for the other side", 200, () -> m.standing(2));
        CHECKS.due("there they are", 7, () -> m.value(2, 2, 0));
        CHECKS.due("box of defaults is empty", 0, () -> m.standing(0));
        CHECKS.due("none against a default", 100, () -> m.standing(1));
    }

    private static void replayedAndStanding() {
        FieldMigrator m = withSchema();
        m.add(0, 0, 0, 42, true);
        m.turn(0, 0, 2);
        m.row(0, 1);
        CHECKS.fails("no row", Checks.BOUNDS, () -> m.replayed(1, 0));
        CHECKS.fails("no field", Checks.BOUNDS, () -> m.replayed(0, 1));
        CHECKS.fails("name -1", Checks.BOUNDS, () -> m.replayed(0, -1));
        CHECKS.fails("name 26", Checks.BOUNDS, () -> m.replayed(0, 26));
        CHECKS.fails("no row to stand", Checks.BOUNDS, () -> m.standing(1));
        CHECKS.fails("row -1", Checks.BOUNDS, () -> m.standing(-1));
        CHECKS.due("at first", 42, () -> m.replayed(0, 0));
        m.set(0, 0, 1239);
        CHECKS.due("set", 1239, () -> m.replayed(0, 0));
        m.mover(0, 2);
        m.step(0);
        CHECKS.due("moved", 123, () -> m.replayed(0, 0));
        m.undo(0);
        CHECKS.due("undone", 1239, () -> m.replayed(0, 0));
        CHECKS.due("version 1", 10000, () -> m.standing(0));
        m.step(0);
        CHECKS.due("version 2, one entry", 20100, () -> m.standing(0));
        m.form(0);
        m.take(0, 0, true);
        m.write(0, 0, 0, 55);
        CHECKS.due("written", 55, () -> m.replayed(0, 0));
        m.mover(0, 1);
        m.step(1);
        CHECKS.due("moved down", 550, () -> m.replayed(0, 0));
        CHECKS.due("a loss", 10001, () -> m.standing(0));
        m.drop(0, 0);
        CHECKS.due("an older version", 550, () -> m.replayed(0, 0));
    }

    public static void main(String[] args) {
        rows();
        set();
        value();
        turns();
        splitAndJoin();
        needed();
        addAndDrop();
        replayedAndStanding();
        CHECKS.end();
    }
}
