import java.util.Random;
import java.util.TreeMap;

/** Random runs of calls, the same on the class and on the model of the document: promises 1 to 27. */
public final class ModelTest {
    private static final Checks CHECKS = new Checks();
    private static final int RUNS = 1500;
    private static final int[] EXTREMES = {Integer.MIN_VALUE, Integer.MAX_VALUE, -1, 26, 24, 10000, 512, -2};

    /** How many calls of each kind answered, and how many threw; a kind that never does tests nothing. */
    private static final TreeMap<String, Integer> SEEN = new TreeMap<>();

    private final Random random;
    private final FieldMigrator tested = new FieldMigrator();
    private final Model model = new Model();
    private final int names;

    private ModelTest(long seed) {
        random = new Random(seed);
        names = 3 + random.nextInt(7);
    }

    private int odd(int usual) {
        return random.nextInt(60) == 0 ? EXTREMES[random.nextInt(EXTREMES.length)] : usual;
    }

    private int below(int count) {
        return odd(random.nextInt(Math.max(1, count + (random.nextInt(20) == 0 ? 1 : 0))));
    }

    private int anySchema() {
        return below(model.schemas.size());
    }

    private int anyName() {
        return odd(random.nextInt(names));
    }

    private int nameOf(java.util.Map<Integer, Integer> byName) {
        Object[] all = byName.keySet().toArray();
        return all.length == 0 || random.nextInt(8) == 0 ? anyName() : odd((Integer) all[random.nextInt(all.length)]);
    }

    private Model.Schema schemaOr(int number) {
        return number >= 0 && number < model.schemas.size() ? model.schemas.get(number) : null;
    }

    private int headName(int schema) {
        Model.Schema s = schemaOr(schema);
        return s == null ? anyName() : nameOf(s.last().byName());
    }

    private int anyVersion(int schema) {
        Model.Schema s = schemaOr(schema);
        return s == null ? odd(0) : below(s.versions.size());
    }

    private int versionName(int schema, int version) {
        Model.Schema s = schemaOr(schema);
        boolean isThere = s != null && version >= 0 && version < s.versions.size();
        return isThere ? nameOf(s.versions.get(version).byName()) : anyName();
    }

    private int anyValue() {
        int[] usual = {random.nextInt(2), random.nextInt(12), random.nextInt(1000), random.nextInt(10000), -1, 999, 9999};
        return odd(usual[random.nextInt(usual.length)]);
    }

    private int anyFactor() {
        int[] usual = {2, 10, 100, 2 + random.nextInt(99)};
        return random.nextInt(25) == 0 ? random.nextInt(2) * 100 + 1 : odd(usual[random.nextInt(usual.length)]);
    }

    private int anyForm() {
        return below(model.forms.size());
    }

    private int formName(int form) {
        if (form < 0 || form >= model.forms.size()) {
            return anyName();
        }
        Model.Form f = model.forms.get(form);
        java.util.Map<Integer, Integer> byName = model.schemas.get(f.schema).versions.get(f.version).byName();
        java.util.Map<Integer, Integer> held = new TreeMap<>(byName);
        held.values().retainAll(f.held.keySet());
        return nameOf(random.nextInt(4) != 0 && !held.isEmpty() ? held : byName);
    }

    private int anyRow() {
        return below(model.rows.size());
    }

    private int rowVersion(int row) {
        return row >= 0 && row < model.rows.size() ? model.standing(row) / 10000 : 0;
    }

    private int rowSchema(int row) {
        return row >= 0 && row < model.rows.size() ? model.rows.get(row).schema() : -1;
    }

    private void compare(String call, Checks.Call got, Checks.Call want) {
        String due = Checks.outcome(want);
        CHECKS.same(call, Checks.outcome(got), due);
        SEEN.merge(call.substring(0, call.indexOf('(')) + (due.startsWith("java") ? due : ""), 1, Integer::sum);
    }

    private static String told(String name, Object... arguments) {
        StringBuilder words = new StringBuilder(name).append('(');
        for (Object argument : arguments) {
            words.append(words.charAt(words.length() - 1) == '(' ? "" : ", ").append(argument);
        }
        return words.append(')').toString();
    }

    private void schemaCall() {
        int s = anySchema();
        int name = headName(s);
        int other = anyName();
        int third = anyName();
        int kind = random.nextInt(20) == 0 ? odd(3) : random.nextInt(5) % 3 * random.nextInt(3) % 3;
        int value = kind == 1 ? random.nextInt(2) : anyValue();
        int factor = anyFactor();
        boolean isNeeded = random.nextBoolean();
        switch (random.nextInt(9)) {
            case 0, 1 -> compare(told("add", s, other, kind, value, isNeeded),
                () -> tested.add(s, other, kind, value, isNeeded), () -> model.add(s, other, kind, value, isNeeded));
            case 2 -> compare(told("rename", s, name, other),
                () -> tested.rename(s, name, other), () -> model.rename(s, name, other));
            case 3, 4 -> compare(told("turn", s, name, kind),
                () -> tested.turn(s, name, kind), () -> model.turn(s, name, kind));
            case 5 -> compare(told("split", s, name, other, third, factor),
                () -> tested.split(s, name, other, third, factor), () -> model.split(s, name, other, third, factor));
            case 6 -> {
                int second = headName(s);
                compare(told("join", s, name, second, other, factor),
                    () -> tested.join(s, name, second, other, factor), () -> model.join(s, name, second, other, factor));
            }
            case 7 -> compare(told("toggleNeed", s, name),
                () -> Checks.yes(tested.toggleNeed(s, name)), () -> Checks.yes(model.toggleNeed(s, name)));
            default -> compare(told("drop", s, name),
                () -> Checks.yes(tested.drop(s, name)), () -> Checks.yes(model.drop(s, name)));
        }
    }

    private void readingCall() {
        int s = anySchema();
        int version = anyVersion(s);
        int name = versionName(s, version);
        int place = below(14);
        switch (random.nextInt(3)) {
            case 0 -> compare(told("head", s), () -> tested.head(s), () -> model.head(s));
            case 1 -> compare(told("field", s, version, name),
                () -> tested.field(s, version, name), () -> model.field(s, version, name));
            default -> compare(told("text", s, version, place),
                () -> tested.text(s, version, place), () -> model.text(s, version, place));
        }
    }

    private void formCall() {
        int f = anyForm();
        int name = formName(f);
        boolean writes = random.nextInt(4) != 0;
        int row = anyRow();
        int value = anyValue();
        switch (random.nextInt(16)) {
            case 0, 1 -> {
                int s = anySchema();
                compare(told("form", s), () -> tested.form(s), () -> model.form(s));
            }
            case 2, 3, 4, 5, 6 -> compare(told("take", f, name, writes),
                () -> tested.take(f, name, writes), () -> model.take(f, name, writes));
            case 7 -> compare(told("letGo", f, name), () -> tested.letGo(f, name), () -> model.letGo(f, name));
            case 8 -> {
                if (random.nextInt(3) == 0) {
                    compare(told("retire", f), () -> tested.retire(f), () -> model.retire(f));
                } else {
                    compare(told("renew", f), () -> tested.renew(f), () -> model.renew(f));
                }
            }
            case 9, 10 -> compare(told("read", f, row, name),
                () -> tested.read(f, row, name), () -> model.read(f, row, name));
            default -> compare(told("write", f, row, name, value),
                () -> tested.write(f, row, name, value), () -> model.write(f, row, name, value));
        }
    }

    private void rowCall() {
        int r = anyRow();
        int version = anyVersion(rowSchema(r));
        int name = versionName(rowSchema(r), version);
        int own = versionName(rowSchema(r), rowVersion(r));
        int value = anyValue();
        switch (random.nextInt(8)) {
            case 0 -> {
                int s = anySchema();
                int first = anyVersion(s);
                compare(told("row", s, first), () -> tested.row(s, first), () -> model.row(s, first));
            }
            case 1, 2 -> compare(told("set", r, own, value),
                () -> tested.set(r, own, value), () -> model.set(r, own, value));
            case 3, 4, 5 -> compare(told("value", r, version, name),
                () -> tested.value(r, version, name), () -> model.value(r, version, name));
            case 6 -> compare(told("replayed", r, own), () -> tested.replayed(r, own), () -> model.replayed(r, own));
            default -> compare(told("standing", r), () -> tested.standing(r), () -> model.standing(r));
        }
    }

    private void moverCall() {
        int m = below(model.movers.size());
        switch (random.nextInt(8)) {
            case 0 -> {
                int s = anySchema();
                int target = anyVersion(s);
                compare(told("mover", s, target), () -> tested.mover(s, target), () -> model.mover(s, target));
            }
            case 1, 2 -> compare(told("undo", m), () -> tested.undo(m), () -> model.undo(m));
            default -> compare(told("step", m), () -> tested.step(m), () -> model.step(m));
        }
    }

    private void oneCall(int done) {
        int kind = random.nextInt(100);
        if (model.schemas.isEmpty() || kind == 0) {
            compare(told("schema"), tested::schema, model::schema);
        } else if (kind < (done < 20 ? 85 : 10)) {
            schemaCall();
        } else if (kind < 18) {
            readingCall();
        } else if (kind < 55) {
            formCall();
        } else if (kind < 82) {
            rowCall();
        } else {
            moverCall();
        }
    }

    private void allRows() {
        for (int row = 0; row < model.rows.size(); row++) {
            int r = row;
            compare(told("standing", r), () -> tested.standing(r), () -> model.standing(r));
        }
    }

    public static void main(String[] args) {
        for (int seed = 0; seed < RUNS && CHECKS.isRight(); seed++) {
            ModelTest run = new ModelTest(seed);
            int calls = 100 + 390 * (seed % 2);
            for (int done = 0; done < calls && CHECKS.isRight(); done++) {
                run.oneCall(done);
            }
            run.allRows();
            if (!CHECKS.isRight()) {
                System.out.println("in the run with seed " + seed);
            }
        }
        if (args.length > 0) {
            SEEN.forEach((call, count) -> System.out.println(call + ": " + count));
        }
        CHECKS.end();
    }
}
