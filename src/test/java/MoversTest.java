/** Promises 25 to 27: movers, their steps and what can be undone. */
public final class MoversTest {
    private static final Checks CHECKS = new Checks();

    /** Schema 0 at version 3 with numbers a, b, c, and schema 1 at version 0. */
    private static FieldMigrator withFields() {
        FieldMigrator m = new FieldMigrator();
        m.schema();
        m.schema();
        for (int name = 0; name < 3; name++) {
            m.add(0, name, 0, 10 + name, true);
        }
        return m;
    }

    private static void movers() {
        FieldMigrator m = withFields();
        CHECKS.fails("no schema", Checks.BOUNDS, () -> m.mover(2, 0));
        CHECKS.fails("target -1", Checks.BOUNDS, () -> m.mover(0, -1));
        CHECKS.fails("target 4", Checks.BOUNDS, () -> m.mover(0, 4));
        CHECKS.fails("target of another schema", Checks.BOUNDS, () -> m.mover(1, 1));
        for (int i = 0; i < 8; i++) {
            int number = i;
            CHECKS.due("mover", number, () -> m.mover(number % 2, 0));
        }
        CHECKS.fails("a ninth mover", Checks.STATE, () -> m.mover(0, 0));
        CHECKS.fails("mover 8", Checks.BOUNDS, () -> m.step(8));
        CHECKS.fails("no version goes first", Checks.BOUNDS, () -> m.mover(0, 4));
    }

    private static void steps() {
        FieldMigrator m = withFields();
        m.mover(0, 2);
        m.mover(1, 0);
        CHECKS.fails("no mover", Checks.BOUNDS, () -> m.step(2));
        CHECKS.fails("mover -1", Checks.BOUNDS, () -> m.step(-1));
        CHECKS.fails("no rows", Checks.STATE, () -> m.step(0));
        m.row(1, 0);
        m.row(0, 3);
        m.row(0, 2);
        m.row(0, 0);
        m.row(0, 1);
        m.row(0, 0);
        int[] due = {3, 5, 1, 3, 4, 5};
        for (int row : due) {
            CHECKS.due("the farthest, of several the lowest", row, () -> m.step(0));
        }
        CHECKS.fails("all are there", Checks.STATE, () -> m.step(0));
        CHECKS.fails("all of the other schema too", Checks.STATE, () -> m.step(1));
        for (int row = 1; row < 6; row++) {
            int number = row;
            CHECKS.due("at its target", 20000, () -> m.standing(number));
        }
        CHECKS.due("of the other schema", 0, () -> m.standing(0));
    }

    private static void undo() {
        FieldMigrator m = withFields();
        m.mover(0, 3);
        m.mover(0, 0);
        m.row(0, 0);
        m.row(0, 3);
        CHECKS.fails("no mover", Checks.BOUNDS, () -> m.undo(2));
        CHECKS.fails("no step", Checks.STATE, () -> m.undo(0));
        m.step(0);
        m.step(0);
        CHECKS.due("the last", 0, () -> m.undo(0));
        CHECKS.due("one step back", 10000, () -> m.standing(0));
        CHECKS.due("the one ahead of it", 0, () -> m.undo(0));
        CHECKS.due("two steps back", 0, () -> m.standing(0));
        CHECKS.fails("all is undone", Checks.STATE, () -> m.undo(0));
        m.set(1, 2, 77);
        m.step(1);
        CHECKS.due("in the box", 20100, () -> m.standing(1));
        CHECKS.due("back", 1, () -> m.undo(1));
        CHECKS.due("with its box", 30000, () -> m.standing(1));
        CHECKS.due("and its values", 77, () -> m.value(1, 3, 2));
    }

    private static void undoBehindOthers() {
        FieldMigrator m = withFields();
        m.mover(0, 3);
        m.mover(0, 0);
        m.row(0, 1);
        m.step(0);
        m.step(1);
        CHECKS.fails("moved by another since", Checks.STATE, () -> m.undo(0));
        m.undo(1);
        CHECKS.due("which is undone", 0, () -> m.undo(0));
        m.step(0);
        m.set(0, 0, 10);
        CHECKS.fails("set since, to the same value", Checks.STATE, () -> m.undo(0));
        m.step(1);
        CHECKS.due("the move behind the set", 0, () -> m.undo(1));
        CHECKS.fails("set since still", Checks.STATE, () -> m.undo(0));
        m.step(1);
        m.form(0);
        m.take(0, 0, true);
        m.write(0, 0, 0, 10);
        CHECKS.fails("written since, the same value", Checks.STATE, () -> m.undo(1));
        m.step(1);
        m.read(0, 0, 0);
        m.value(0, 3, 2);
        m.standing(0);
        CHECKS.fails("a set that fails", Checks.BOUNDS, () -> m.set(0, 0, 5));
        CHECKS.fails("a write that fails", Checks.ARGUMENT, () -> m.write(0, 0, 0, 10000));
        CHECKS.due("which change nothing", 0, () -> m.undo(1));
    }

    private static void undoWithLosses() {
        FieldMigrator m = withFields();
        m.turn(0, 0, 2);
        m.mover(0, 4);
        m.mover(0, 3);
        m.row(0, 3);
        m.set(0, 0, 1239);
        m.step(0);
        m.set(0, 0, 5);
        m.step(1);
        CHECKS.due("a loss", 30001, () -> m.standing(0));
        CHECKS.due("50 then", 50, () -> m.replayed(0, 0));
        m.undo(1);
        CHECKS.due("with its losses and its box", 40100, () -> m.standing(0));
        CHECKS.due("5 again", 5, () -> m.replayed(0, 0));
        m.step(1);
        CHECKS.due("the loss again", 30001, () -> m.standing(0));
    }

    private static void otherRows() {
        FieldMigrator m = withFields();
        m.mover(0, 3);
        m.row(0, 2);
        m.row(0, 2);
        m.step(0);
        m.set(0, 0, 5);
        m.step(0);
        CHECKS.due("another row was set", 1, () -> m.undo(0));
        CHECKS.fails("this one was set", Checks.STATE, () -> m.undo(0));
        CHECKS.due("the step can be done again", 1, () -> m.step(0));
        CHECKS.due("and undone again", 1, () -> m.undo(0));
    }

    /** The calls that an object is promised for, all of them steps and the like. */
    private static void manySteps() {
        FieldMigrator m = withFields();
        m.mover(0, 3);
        m.mover(0, 2);
        m.row(0, 3);
        m.set(0, 0, 4321);
        for (int i = 0; i < 250; i++) {
            CHECKS.due("down", 0, () -> m.step(1));
            CHECKS.due("up", 0, () -> m.step(0));
        }
        CHECKS.due("it stands", 30000, () -> m.standing(0));
        CHECKS.due("undone", 0, () -> m.undo(0));
        CHECKS.due("below", 20000, () -> m.standing(0));
    }

    public static void main(String[] args) {
        movers();
        steps();
        undo();
        undoBehindOthers();
        undoWithLosses();
        otherRows();
        manySteps();
        CHECKS.end();
    }
}
