import java.util.ArrayList;
import java.util.List;
import java.util.TreeSet;

/**
 * Looks at all that calls can tell of an object, to show that a call that throws changes nothing. As looking uses the
 * object up (it may be called 512 times, and some looks change it), each look gets a pair of new objects.
 */
final class Look {
    private final List<String> log;
    private final int schemas;
    private final int movers;
    private final List<Integer> heads = new ArrayList<>();
    private final List<Integer> schemasOfForms = new ArrayList<>();
    private final List<Integer> schemasOfRows = new ArrayList<>();
    private final List<Integer> versionsOfRows = new ArrayList<>();
    private final TreeSet<Integer> names = new TreeSet<>();
    private int spareName;

    private Look(List<String> log) {
        this.log = log;
        int schemaCount = 0;
        int moverCount = 0;
        for (String call : log) {
            int[] a = Run.argumentsOf(call);
            switch (Run.nameOf(call)) {
                case "schema" -> schemaCount++;
                case "mover" -> moverCount++;
                case "form" -> schemasOfForms.add(a[0]);
                case "row" -> schemasOfRows.add(a[0]);
                case "add" -> names.add(a[1]);
                case "rename" -> names.add(a[2]);
                case "split" -> names.addAll(List.of(a[2], a[3]));
                case "join" -> names.add(a[3]);
                default -> { }
            }
        }
        schemas = schemaCount;
        movers = moverCount;
        while (names.contains(spareName)) {
            spareName++;
        }
        names.add(spareName);
        FieldMigrator scout = broughtTo(log);
        for (int s = 0; s < schemas; s++) {
            heads.add(scout.head(s) / 100);
        }
        for (int r = 0; r < schemasOfRows.size(); r++) {
            versionsOfRows.add(scout.standing(r) / 10000);
        }
    }

    private static FieldMigrator broughtTo(List<String> log) {
        FieldMigrator made = new FieldMigrator();
        for (String call : log) {
            Run.answer(made, call);
        }
        return made;
    }

    /** The first call that tells whether another was made ahead of it; nothing if none does. */
    static String differenceBehind(List<String> log, String refused) {
        Look look = new Look(log);
        for (List<String> calls : look.looks()) {
            FieldMigrator touched = broughtTo(log);
            FieldMigrator untouched = broughtTo(log);
            Run.answer(touched, refused);
            int used = log.size() + 1;
            for (String call : calls) {
                used += Run.callsOf(call);
                if (used > Run.CALLS) {
                    break;
                }
                String got = Run.answer(touched, call);
                String due = Run.answer(untouched, call);
                if (!got.equals(due)) {
                    return call + " answers " + got + " in place of " + due;
                }
            }
        }
        return "";
    }

    private List<List<String>> looks() {
        return List.of(fields(), texts(), rows(), views(), writes(), lettingGo(), taking(), undoing(), stepping(),
            making());
    }

    private List<String> fields() {
        List<String> calls = new ArrayList<>();
        for (int s = 0; s <= schemas; s++) {
            calls.add("head " + s);
        }
        for (int s = 0; s < schemas; s++) {
            for (int version = heads.get(s) + 1; version >= 0; version--) {
                for (int name : names) {
                    calls.add("field " + s + " " + version + " " + name);
                }
            }
        }
        return calls;
    }

    private List<String> texts() {
        List<String> calls = new ArrayList<>();
        for (int s = 0; s < schemas; s++) {
            for (int version = heads.get(s) + 1; version >= 0; version--) {
                calls.add("words " + s + " " + version);
            }
        }
        return calls;
    }

    private List<String> standings() {
        List<String> calls = new ArrayList<>();
        for (int r = 0; r <= schemasOfRows.size(); r++) {
            calls.add("standing " + r);
        }
        return calls;
    }

    private List<String> rows() {
        List<String> calls = standings();
        for (int r = 0; r < schemasOfRows.size(); r++) {
            for (int name : names) {
                calls.add("value " + r + " " + versionsOfRows.get(r) + " " + name);
                calls.add("replayed " + r + " " + name);
            }
        }
        return calls;
    }

    private List<String> views() {
        List<String> calls = new ArrayList<>();
        for (int r = 0; r < schemasOfRows.size(); r++) {
            for (int version = heads.get(schemasOfRows.get(r)); version >= 0; version--) {
                for (int name : names) {
                    calls.add("value " + r + " " + version + " " + name);
                }
            }
        }
        return calls;
    }

    private List<String> writes() {
        List<String> calls = new ArrayList<>();
        for (int f = 0; f < schemasOfForms.size(); f++) {
            int row = schemasOfRows.indexOf(schemasOfForms.get(f));
            for (int name : names) {
                calls.add("read " + f + " " + row + " " + name);
                calls.add("write " + f + " " + row + " " + name + " 1");
            }
        }
        calls.addAll(standings());
        return calls;
    }

    private List<String> lettingGo() {
        List<String> calls = new ArrayList<>();
        for (int f = 0; f < schemasOfForms.size(); f++) {
            for (int name : names) {
                calls.add("letGo " + f + " " + name);
                calls.add("head " + schemasOfForms.get(f));
            }
            calls.add("retire " + f);
        }
        return calls;
    }

    private List<String> taking() {
        List<String> calls = new ArrayList<>();
        for (int f = 0; f < schemasOfForms.size(); f++) {
            for (int name : names) {
                calls.add("take " + f + " " + name + " yes");
            }
            calls.add("renew " + f);
        }
        calls.addAll(writes());
        return calls;
    }

    private List<String> undoing() {
        List<String> calls = new ArrayList<>();
        for (int turn = 0; turn < 4; turn++) {
            for (int m = 0; m <= movers; m++) {
                calls.add("undo " + m);
            }
        }
        calls.addAll(standings());
        return calls;
    }

    private List<String> stepping() {
        List<String> calls = new ArrayList<>();
        for (int turn = 0; turn < 3; turn++) {
            for (int m = 0; m < movers; m++) {
                calls.add("step " + m);
                calls.add("undo " + m);
                calls.add("step " + m);
            }
        }
        calls.addAll(standings());
        return calls;
    }

    private List<String> making() {
        List<String> calls = new ArrayList<>();
        for (int s = 0; s < schemas; s++) {
            calls.add("form " + s);
            calls.add("row " + s + " 0");
            calls.add("mover " + s + " " + heads.get(s));
            calls.add("add " + s + " " + spareName + " 0 5 no");
            for (int name : names) {
                calls.add("drop " + s + " " + name);
            }
            calls.add("head " + s);
        }
        calls.add("schema");
        calls.addAll(standings());
        return calls;
    }
}
