import java.util.ArrayList;
import java.util.List;

/**
 * A run of calls on a new object, one a line and told in words: "add 0 a 2 150 yes = 0" is add(0, 0, 2, 150, true),
 * of which 0 is due. What is due may also be yes or no, or "bounds", "argument" or "state" for the exception; where
 * nothing is told, any answer will do. "words 0 1" stands for the whole text of the step to version 1 of schema 0.
 *
 * <p>Behind each call that is due to throw, two further objects are brought to the same point, one of them with that
 * call and one without it, and must answer all further calls alike: see {@link Look}.
 */
final class Run {
    /** An object is promised for so many calls. */
    static final int CALLS = 512;

    private final Checks checks;
    private final String about;
    private final FieldMigrator tested = new FieldMigrator();
    private final List<String> log = new ArrayList<>();
    private int used;

    private Run(Checks checks, String about) {
        this.checks = checks;
        this.about = about;
    }

    static void check(Checks checks, String about, String script) {
        Run run = new Run(checks, about);
        for (String line : script.split("\n")) {
            if (!line.isBlank()) {
                run.line(line.strip());
            }
        }
    }

    /** Schema 0 with so many versions, the version 0 included, and a number added by each other: a, b and so on. */
    static String versions(int count) {
        StringBuilder script = new StringBuilder("schema\n");
        for (int name = 0; name < count - 1; name++) {
            script.append("add 0 ").append((char) ('a' + name)).append(" 0 ").append(100 + name).append(" no\n");
        }
        return script.toString();
    }

    private void line(String line) {
        int end = line.indexOf(" = ");
        String call = end < 0 ? line : line.substring(0, end);
        String due = end < 0 ? null : outcomeOf(line.substring(end + 3));
        String got = answer(tested, call);
        used += callsOf(call);
        checks.same(about + ": the limit of calls", String.valueOf(used <= CALLS), "true");
        if (due == null) {
            checks.same(about + ": " + call + " answers", String.valueOf(!isThrown(got)), "true");
        } else {
            checks.same(about + ": " + call, got, due);
        }
        if (due != null && isThrown(due)) {
            checks.same(about + ": behind " + call, Look.differenceBehind(log, call), "");
        } else {
            log.add(call);
        }
    }

    private static boolean isThrown(String outcome) {
        return outcome.startsWith("java.");
    }

    /** How many calls of the object a line may need. */
    static int callsOf(String call) {
        return call.startsWith("words") ? 16 : 1;
    }

    private static String outcomeOf(String due) {
        return switch (due) {
            case "yes" -> "1";
            case "no" -> "0";
            case "bounds" -> Checks.BOUNDS.getName();
            case "argument" -> Checks.ARGUMENT.getName();
            case "state" -> Checks.STATE.getName();
            default -> due;
        };
    }

    static int[] argumentsOf(String call) {
        String[] words = call.split(" ");
        int[] arguments = new int[words.length - 1];
        for (int i = 1; i < words.length; i++) {
            arguments[i - 1] = numberOf(words[i]);
        }
        return arguments;
    }

    private static int numberOf(String word) {
        return switch (word) {
            case "yes" -> 1;
            case "no" -> 0;
            case "min" -> Integer.MIN_VALUE;
            case "max" -> Integer.MAX_VALUE;
            default -> word.matches("[a-z]") ? word.charAt(0) - 'a' : Integer.parseInt(word);
        };
    }

    static String nameOf(String call) {
        return call.split(" ")[0];
    }

    static String answer(FieldMigrator m, String call) {
        int[] a = argumentsOf(call);
        if (nameOf(call).equals("words")) {
            return Checks.wordsOf(m, a[0], a[1]);
        }
        return Checks.outcome(() -> answer(m, nameOf(call), a));
    }

    private static long answer(FieldMigrator m, String name, int[] a) {
        return switch (name) {
            case "schema" -> m.schema();
            case "add" -> m.add(a[0], a[1], a[2], a[3], a[4] == 1);
            case "rename" -> m.rename(a[0], a[1], a[2]);
            case "turn" -> m.turn(a[0], a[1], a[2]);
            case "split" -> m.split(a[0], a[1], a[2], a[3], a[4]);
            case "join" -> m.join(a[0], a[1], a[2], a[3], a[4]);
            case "toggleNeed" -> Checks.yes(m.toggleNeed(a[0], a[1]));
            case "drop" -> Checks.yes(m.drop(a[0], a[1]));
            case "head" -> m.head(a[0]);
            case "field" -> m.field(a[0], a[1], a[2]);
            case "text" -> m.text(a[0], a[1], a[2]);
            case "form" -> m.form(a[0]);
            case "take" -> m.take(a[0], a[1], a[2] == 1);
            case "letGo" -> m.letGo(a[0], a[1]);
            case "retire" -> m.retire(a[0]);
            case "renew" -> m.renew(a[0]);
            case "read" -> m.read(a[0], a[1], a[2]);
            case "write" -> m.write(a[0], a[1], a[2], a[3]);
            case "row" -> m.row(a[0], a[1]);
            case "set" -> m.set(a[0], a[1], a[2]);
            case "value" -> m.value(a[0], a[1], a[2]);
            case "replayed" -> m.replayed(a[0], a[1]);
            case "standing" -> m.standing(a[0]);
            case "mover" -> m.mover(a[0], a[1]);
            case "step" -> m.step(a[0]);
            case "undo" -> m.undo(a[0]);
            default -> throw new AssertionError("no such call: " + name);
        };
    }
}
