import java.util.ArrayList;
import java.util.HashMap;
import java.util.LinkedHashSet;
import java.util.List;
import java.util.Map;
import java.util.Set;
import java.util.TreeMap;
import java.util.TreeSet;

/**
 * The document told a second time, with lists and maps and no thought of speed: it holds no rows,
 * but a log of all that was done to them, and finds a row from its first version for each call.
 */
final class Model {
    record Step(String word, List<Integer> front, List<Integer> behind, int number) { }

    record Version(Map<Integer, Integer> byName, Set<Integer> needed) { }

    record Field(int kind, int value) { }

    record Row(int schema, int version) { }

    record Key(int step, boolean isBehind) { }

    /** A set, write, move or undo; of an undo the other is the number of the move. */
    record Event(String what, int row, int mover, int version, int field, int value, int other) { }

    static final class Schema {
        final List<Version> versions = new ArrayList<>();
        final List<Step> steps = new ArrayList<>();
        final List<Field> fields = new ArrayList<>();
        final List<Integer> waiting = new ArrayList<>();

        int head() {
            return versions.size() - 1;
        }

        Version last() {
            return versions.get(head());
        }
    }

    static final class Form {
        int schema;
        int version;
        boolean isAlive = true;
        final Map<Integer, Boolean> held = new TreeMap<>();
    }

    record Mover(int schema, int target) { }

    static final class State {
        int version;
        int losses;
        Map<Integer, Integer> values = new TreeMap<>();
        Map<Key, List<Integer>> box = new HashMap<>();

        State copy() {
            State copied = new State();
            copied.version = version;
            copied.losses = losses;
            copied.values = new TreeMap<>(values);
            copied.box = new HashMap<>(box);
            return copied;
        }
    }

    final List<Schema> schemas = new ArrayList<>();
    final List<Form> forms = new ArrayList<>();
    final List<Row> rows = new ArrayList<>();
    final List<Mover> movers = new ArrayList<>();
    final List<Event> log = new ArrayList<>();

    private static void bounds(boolean isRight) {
        if (!isRight) {
            throw new IndexOutOfBoundsException();
        }
    }

    private static void argument(boolean isRight) {
        if (!isRight) {
            throw new IllegalArgumentException();
        }
    }

    private static void state(boolean isRight) {
        if (!isRight) {
            throw new IllegalStateException();
        }
    }

    private static <T> T at(List<T> list, int number) {
        bounds(number >= 0 && number < list.size());
        return list.get(number);
    }

    private static int named(Version version, int name) {
        Integer field = version.byName.get(name);
        bounds(field != null);
        return field;
    }

    private static boolean isLetter(int name) {
        return 0 <= name && name <= 25;
    }

    private static int greatest(int kind) {
        return List.of(9999, 1, 999).get(kind);
    }

    private static void room(Schema s) {
        state(s.versions.size() < 24);
    }

    // ---- schemas

    int schema() {
        state(schemas.size() < 4);
        Schema made = new Schema();
        made.versions.add(new Version(new TreeMap<>(), new TreeSet<>()));
        schemas.add(made);
        return schemas.size() - 1;
    }

    private static int make(Schema s, int kind, int value) {
        s.fields.add(new Field(kind, value));
        return s.fields.size() - 1;
    }

    private static void next(Schema s, Step step, Map<Integer, Integer> names, boolean isNeeded) {
        Map<Integer, Integer> byName = new TreeMap<>(s.last().byName);
        Set<Integer> needed = new TreeSet<>(s.last().needed);
        byName.values().removeAll(step.front);
        needed.removeAll(step.front);
        byName.putAll(names);
        if (isNeeded) {
            needed.addAll(step.behind);
        }
        s.versions.add(new Version(byName, needed));
        s.steps.add(step);
    }

    int add(int schema, int name, int kind, int value, boolean isNeeded) {
        Schema s = at(schemas, schema);
        argument(isLetter(name) && kind >= 0 && kind <= 2 && value >= 0 && value <= greatest(kind));
        state(!s.last().byName.containsKey(name));
        room(s);
        int made = make(s, kind, value);
        next(s, new Step("add", List.of(), List.of(made), 0), Map.of(name, made), isNeeded);
        return made;
    }

    int rename(int schema, int name, int other) {
        Schema s = at(schemas, schema);
        int field = named(s.last(), name);
        argument(isLetter(other));
        state(!s.last().byName.containsKey(other));
        room(s);
        next(s, new Step("rename", List.of(field), List.of(field), 0), Map.of(other, field),
            s.last().needed.contains(field));
        return s.head();
    }

    int turn(int schema, int name, int kind) {
        Schema s = at(schemas, schema);
        int field = named(s.last(), name);
        argument(kind >= 0 && kind <= 2);
        state(s.fields.get(field).kind != kind && !s.waiting.contains(field));
        room(s);
        int made = make(s, kind, turned(s.fields.get(field).value, s.fields.get(field).kind, kind));
        next(s, new Step("turn", List.of(field), List.of(made), 0), Map.of(name, made),
            s.last().needed.contains(field));
        return made;
    }

    int split(int schema, int name, int first, int second, int divisor) {
        Schema s = at(schemas, schema);
        int field = named(s.last(), name);
        argument(isLetter(first) && isLetter(second) && first != second && divisor >= 2 && divisor <= 100);
        state(s.fields.get(field).kind == 0 && !s.waiting.contains(field));
        state(name == first || !s.last().byName.containsKey(first));
        state(name == second || !s.last().byName.containsKey(second));
        room(s);
        int whole = s.fields.get(field).value;
        int one = make(s, 0, whole / divisor);
        int two = make(s, 0, whole % divisor);
        next(s, new Step("split", List.of(field), List.of(one, two), divisor), Map.of(first, one, second, two),
            s.last().needed.contains(field));
        return one;
    }

    int join(int schema, int first, int second, int name, int factor) {
        Schema s = at(schemas, schema);
        int one = named(s.last(), first);
        int two = named(s.last(), second);
        argument(isLetter(name) && factor >= 2 && factor <= 100 && first != second);
        for (int field : List.of(one, two)) {
            state(s.fields.get(field).kind == 0 && !s.waiting.contains(field));
        }
        state(name == first || name == second || !s.last().byName.containsKey(name));
        room(s);
        int made = make(s, 0, Math.min(9999, s.fields.get(one).value * factor + s.fields.get(two).value));
        next(s, new Step("join", List.of(one, two), List.of(made), factor), Map.of(name, made),
            s.last().needed.contains(one) || s.last().needed.contains(two));
        return made;
    }

    boolean toggleNeed(int schema, int name) {
        Schema s = at(schemas, schema);
        int field = named(s.last(), name);
        room(s);
        boolean isNeeded = !s.last().needed.contains(field);
        next(s, new Step("need", List.of(field), List.of(field), 0), Map.of(name, field), isNeeded);
        return isNeeded;
    }

    private static void carryOut(Schema s, int field) {
        next(s, new Step("drop", List.of(field), List.of(), 0), Map.of(), false);
    }

    boolean drop(int schema, int name) {
        Schema s = at(schemas, schema);
        int field = named(s.last(), name);
        state(!s.waiting.contains(field));
        room(s);
        if (isHeldUp(schema, field)) {
            s.waiting.add(field);
            return false;
        }
        carryOut(s, field);
        return true;
    }

    int head(int schema) {
        Schema s = at(schemas, schema);
        return 100 * s.head() + s.waiting.size();
    }

    int field(int schema, int version, int name) {
        Schema s = at(schemas, schema);
        Version v = at(s.versions, version);
        argument(isLetter(name));
        Integer field = v.byName.get(name);
        return field == null ? -1 : 10 * field + (v.needed.contains(field) ? 3 : 0) + s.fields.get(field).kind;
    }

    private static String names(Version version, List<Integer> fields) {
        StringBuilder words = new StringBuilder();
        for (int field : fields) {
            version.byName.forEach((name, other) -> words.append(other == field ? " " + (char) ('a' + name) : ""));
        }
        return words.toString();
    }

    char text(int schema, int version, int place) {
        Schema s = at(schemas, schema);
        bounds(version != Integer.MIN_VALUE);
        Step step = at(s.steps, version - 1);
        String words = step.word + names(s.versions.get(version - 1), step.front) + ">"
            + names(s.versions.get(version), step.behind);
        bounds(place >= 0 && place < words.length());
        return words.charAt(place);
    }

    // ---- forms

    /** The traces of a field, found from each to the next as the document tells it. */
    private static Set<Integer> traces(Schema s, int field) {
        Set<Integer> found = new LinkedHashSet<>();
        for (Step step : s.steps) {
            if (step.front.contains(field) && !step.behind.contains(field)) {
                step.behind.forEach(other -> found.addAll(traces(s, other)));
                return found;
            }
        }
        found.add(field);
        return found;
    }

    private boolean isHeldUp(int schema, int field) {
        return forms.stream().filter(form -> form.isAlive && form.schema == schema)
            .flatMap(form -> form.held.keySet().stream())
            .anyMatch(held -> traces(schemas.get(schema), held).contains(field));
    }

    private int lookAtDrops(int schema) {
        Schema s = schemas.get(schema);
        int done = 0;
        for (int field : new ArrayList<>(s.waiting)) {
            if (!isHeldUp(schema, field) && s.versions.size() < 24) {
                s.waiting.remove(Integer.valueOf(field));
                carryOut(s, field);
                done++;
            }
        }
        return done;
    }

    int form(int schema) {
        Schema s = at(schemas, schema);
        state(forms.size() < 8);
        Form made = new Form();
        made.schema = schema;
        made.version = s.head();
        forms.add(made);
        return forms.size() - 1;
    }

    int take(int form, int name, boolean writes) {
        Form f = at(forms, form);
        Schema s = schemas.get(f.schema);
        int field = named(s.versions.get(f.version), name);
        Set<Integer> traces = traces(s, field);
        state(f.isAlive && !traces.isEmpty() && traces.stream().noneMatch(s.waiting::contains));
        f.held.put(field, writes);
        return f.held.size();
    }

    private int heldField(Form f, int name) {
        int field = named(schemas.get(f.schema).versions.get(f.version), name);
        bounds(f.held.containsKey(field));
        return field;
    }

    int letGo(int form, int name) {
        Form f = at(forms, form);
        f.held.remove(heldField(f, name));
        return lookAtDrops(f.schema);
    }

    int retire(int form) {
        Form f = at(forms, form);
        state(f.isAlive);
        f.isAlive = false;
        f.held.clear();
        return lookAtDrops(f.schema);
    }

    int renew(int form) {
        Form f = at(forms, form);
        state(f.isAlive);
        Map<Integer, Boolean> held = new TreeMap<>();
        f.held.forEach((field, writes) -> traces(schemas.get(f.schema), field)
            .forEach(trace -> held.merge(trace, writes, Boolean::logicalOr)));
        f.held.clear();
        f.held.putAll(held);
        f.version = schemas.get(f.schema).head();
        lookAtDrops(f.schema);
        return f.held.size();
    }

    int read(int form, int row, int name) {
        Form f = at(forms, form);
        Row r = at(rows, row);
        int field = heldField(f, name);
        argument(r.schema == f.schema);
        return seen(row, f.version).values.getOrDefault(field, -1);
    }

    int write(int form, int row, int name, int value) {
        Form f = at(forms, form);
        Row r = at(rows, row);
        int field = heldField(f, name);
        argument(r.schema == f.schema);
        argument(value >= 0 && value <= greatest(schemas.get(f.schema).fields.get(field).kind));
        state(f.held.get(field));
        int before = seen(row, f.version).values.getOrDefault(field, -1);
        log.add(new Event("write", row, -1, f.version, field, value, -1));
        return before;
    }

    // ---- rows

    int row(int schema, int version) {
        Schema s = at(schemas, schema);
        at(s.versions, version);
        state(rows.size() < 20);
        rows.add(new Row(schema, version));
        return rows.size() - 1;
    }

    private State first(Row row) {
        State made = new State();
        made.version = row.version;
        Schema s = schemas.get(row.schema);
        s.versions.get(row.version).needed.forEach(field -> made.values.put(field, s.fields.get(field).value));
        return made;
    }

    /** The row as it stands, by all that the log tells of it. */
    private State found(int row) {
        Schema s = schemas.get(rows.get(row).schema);
        State state = first(rows.get(row));
        Map<Integer, State> ahead = new HashMap<>();
        for (int i = 0; i < log.size(); i++) {
            Event event = log.get(i);
            if (event.row != row) {
                continue;
            }
            switch (event.what) {
                case "set" -> state.values.put(event.field, event.value);
                case "write" -> {
                    int version = state.version;
                    move(s, state, event.version);
                    state.values.put(event.field, event.value);
                    move(s, state, version);
                }
                case "move" -> {
                    ahead.put(i, state.copy());
                    move(s, state, event.version);
                }
                default -> state = ahead.get(event.other).copy();
            }
        }
        return state;
    }

    private State seen(int row, int version) {
        State state = found(row);
        move(schemas.get(rows.get(row).schema), state, version);
        return state;
    }

    int set(int row, int name, int value) {
        Row r = at(rows, row);
        State state = found(row);
        Schema s = schemas.get(r.schema);
        int field = named(s.versions.get(state.version), name);
        int least = s.versions.get(state.version).needed.contains(field) ? 0 : -1;
        argument(value >= least && value <= greatest(s.fields.get(field).kind));
        log.add(new Event("set", row, -1, state.version, field, value, -1));
        return state.values.getOrDefault(field, -1);
    }

    int value(int row, int version, int name) {
        Row r = at(rows, row);
        int field = named(at(schemas.get(r.schema).versions, version), name);
        return seen(row, version).values.getOrDefault(field, -1);
    }

    int replayed(int row, int name) {
        Row r = at(rows, row);
        State state = found(row);
        int field = named(schemas.get(r.schema).versions.get(state.version), name);
        return state.values.getOrDefault(field, -1);
    }

    int standing(int row) {
        at(rows, row);
        State state = found(row);
        return 10000 * state.version + 100 * state.box.size() + state.losses;
    }

    // ---- movers

    int mover(int schema, int target) {
        Schema s = at(schemas, schema);
        at(s.versions, target);
        state(movers.size() < 8);
        movers.add(new Mover(schema, target));
        return movers.size() - 1;
    }

    int step(int mover) {
        Mover m = at(movers, mover);
        int best = -1;
        int difference = 0;
        int version = 0;
        for (int row = 0; row < rows.size(); row++) {
            if (rows.get(row).schema == m.schema) {
                int there = found(row).version;
                if (Math.abs(there - m.target) > difference) {
                    best = row;
                    difference = Math.abs(there - m.target);
                    version = there;
                }
            }
        }
        state(best >= 0);
        log.add(new Event("move", best, mover, version + Integer.signum(m.target - version), -1, -1, -1));
        return best;
    }

    int undo(int mover) {
        at(movers, mover);
        Set<Integer> undone = new TreeSet<>();
        for (Event event : log) {
            if (event.what.equals("undo")) {
                undone.add(event.other);
            }
        }
        int last = log.size() - 1;
        while (last >= 0 && !(log.get(last).what.equals("move") && log.get(last).mover == mover
            && !undone.contains(last))) {
            last--;
        }
        state(last >= 0);
        int row = log.get(last).row;
        for (int i = last + 1; i < log.size(); i++) {
            Event event = log.get(i);
            state(event.row != row || event.what.equals("undo") || undone.contains(i));
        }
        log.add(new Event("undo", row, mover, -1, -1, -1, last));
        return row;
    }

    // ---- ways

    private static int turned(int value, int from, int to) {
        if (value == -1 || from == to) {
            return value;
        }
        return switch (10 * from + to) {
            case 1, 21 -> value > 0 ? 1 : 0;
            case 2 -> value / 10;
            case 20 -> 10 * value;
            default -> value;
        };
    }

    private static List<Integer> parts(int whole, int divisor) {
        return whole == -1 ? List.of(-1, -1) : List.of(whole / divisor, whole % divisor);
    }

    private static List<Integer> whole(List<Integer> parts, int factor) {
        return List.of(parts.contains(-1) ? -1 : Math.min(9999, factor * parts.get(0) + parts.get(1)));
    }

    /** What the way over the step with this number, from 0, tells of some values. */
    private static List<Integer> way(Schema s, int number, boolean isUp, List<Integer> values) {
        Step step = s.steps.get(number);
        List<Integer> to = isUp ? step.behind : step.front;
        List<Integer> told = switch (step.word) {
            case "add" -> isUp ? List.of(s.fields.get(to.get(0)).value) : List.of();
            case "turn" -> List.of(turned(values.get(0),
                s.fields.get((isUp ? step.front : step.behind).get(0)).kind, s.fields.get(to.get(0)).kind));
            case "split" -> isUp ? parts(values.get(0), step.number) : whole(values, step.number);
            case "join" -> isUp ? whole(values, step.number) : parts(values.get(0), step.number);
            case "drop" -> isUp ? List.of() : List.of(-1);
            default -> values;
        };
        List<Integer> all = new ArrayList<>();
        for (int i = 0; i < told.size(); i++) {
            boolean isNeeded = s.versions.get(isUp ? number + 1 : number).needed.contains(to.get(i));
            all.add(told.get(i) == -1 && isNeeded ? s.fields.get(to.get(i)).value : told.get(i));
        }
        return all;
    }

    private static void move(Schema s, State state, int version) {
        while (state.version != version) {
            boolean isUp = state.version < version;
            int number = isUp ? state.version : state.version - 1;
            Step step = s.steps.get(number);
            state.version += isUp ? 1 : -1;
            if (step.word.equals("rename")) {
                continue;
            }
            List<Integer> left = new ArrayList<>();
            for (int field : isUp ? step.front : step.behind) {
                Integer value = state.values.remove(field);
                left.add(value == null ? -1 : value);
            }
            List<Integer> reached = way(s, number, isUp, left);
            List<Integer> kept = state.box.remove(new Key(number, isUp));
            if (kept != null && way(s, number, !isUp, kept).equals(left)) {
                reached = kept;
            } else if (kept != null) {
                state.losses++;
            }
            if (!way(s, number, !isUp, reached).equals(left)) {
                state.box.put(new Key(number, !isUp), left);
            }
            List<Integer> to = isUp ? step.behind : step.front;
            for (int i = 0; i < to.size(); i++) {
                state.values.put(to.get(i), reached.get(i));
            }
        }
    }
}
