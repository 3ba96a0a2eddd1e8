import java.util.ArrayList;
import java.util.HashSet;
import java.util.List;
import java.util.Set;

/**
 * Compares what objects tell that were made by the same calls, but for one: with a call that returns a code or only tells
 * something, nothing is different; with a change and its undoing nothing is different either.
 */
final class Twins {
    private static final Set<String> CHANGES = Set.of("rink", "wood", "begin", "bowl", "close", "sweep", "rain", "sun", "brew",
        "tea", "hour", "script");
    /** They are no changes, but bring back something from before. */
    private static final Set<String> GOING_BACK = Set.of("clear", "undo", "restore");
    private static final int MOST_UNDONE = 8;

    /** What an object tells. */
    interface Telling {
        List<String> tell(CountedGreen x);
    }

    private final Check check;
    private final String label;
    /** Beginnings of lines that may be different. */
    private final Set<String> free = new HashSet<>();

    Twins(Check check, String label) {
        this.check = check;
        this.label = label;
    }

    void hold(List<Row> before, Row row) {
        int answer = row.call(made(before)).intValue();
        boolean isCode = answer == BowlsGreen.NONE || answer == BowlsGreen.BAD || answer == BowlsGreen.REFUSED;
        if (CHANGES.contains(row.name) && !isCode) {
            holdUndone(before, row);
        } else if (isCode || answer == BowlsGreen.NOTHING || !GOING_BACK.contains(row.name)) {
            holdSame(before, row, answer);
        }
    }

    private static CountedGreen made(List<Row> rows) {
        CountedGreen x = new CountedGreen();
        for (Row row : rows) {
            if (row.quoted != null) {
                Check.type(x, row.quoted);
            } else {
                row.call(x);
            }
        }
        return x;
    }

    private static List<Row> and(List<Row> rows, List<Row> more) {
        List<Row> all = new ArrayList<>(rows);
        all.addAll(more);
        return all;
    }

    void dueSame(List<Row> some, List<Row> others, Telling telling) {
        List<String> got = telling.tell(made(others));
        List<String> want = telling.tell(made(some));
        check.due(label + ": lines", got.size(), want.size());
        for (int i = 0; i < Math.min(got.size(), want.size()); i++) {
            if (!isFree(want.get(i))) {
                check.dueText(label, got.get(i), want.get(i));
            }
        }
    }

    private boolean isFree(String line) {
        return free.stream().anyMatch(line::startsWith);
    }

    private void holdSame(List<Row> before, Row row, int answer) {
        List<Row> after = and(before, List.of(row));
        freeLines(row.name, answer);
        if (row.name.equals("script")) {
            check.due(label + ": account(13)", made(after).account(13), 0);
        }
        if (!isFree("account(13)")) {
            dueSame(before, after, Twins::scripted);
        }
        if (!row.name.equals("save")) {
            dueSame(before, after, Twins::restored);
        }
        dueSame(before, after, Told::all);
        dueSame(before, after, Told::goneOn);
        for (int times = 1; times <= MOST_UNDONE; times++) {
            int undone = times;
            dueSame(before, after, x -> undone(x, undone));
        }
    }

    /** What a call may make different that is no change. */
    private void freeLines(String name, int answer) {
        if (answer == BowlsGreen.REFUSED) {
            free.add("reasons");
        }
        if (name.equals("script") || (name.equals("append") && answer >= 0)) {
            free.add("account(13)");
        }
        if (name.equals("script") && answer == BowlsGreen.BAD) {
            free.add("fault()");
        }
        if (name.equals("describe") && answer >= 0) {
            free.add("line");
        }
    }

    private void holdUndone(List<Row> before, Row row) {
        List<Row> after = and(before, List.of(row));
        List<Row> back = and(after, Row.read("undo()"));
        int changes = Math.min(MOST_UNDONE, made(before).account(14) + 1);
        check.due(label + ": account(14)", made(after).account(14), changes);
        check.due(label + ": undo()", made(after).undo(), changes - 1);
        check.due(label + ": account(14) behind undo()", made(back).account(14), changes - 1);
        free.add("account(14)");
        if (row.name.equals("script")) {
            free.add("account(13)");
            check.due(label + ": account(13)", made(after).account(13), 0);
        } else {
            dueSame(before, back, Twins::scripted);
        }
        dueSame(before, back, Twins::restored);
        dueSame(before, back, Told::all);
        dueSame(before, back, Told::goneOn);
        for (int times = 1; times < changes; times++) {
            int undone = times;
            dueSame(before, back, x -> undone(x, undone));
        }
    }

    private static List<String> undone(CountedGreen x, int times) {
        for (int i = 0; i < times; i++) {
            x.undo();
        }
        return Told.green(x);
    }

    private static List<String> restored(CountedGreen x) {
        int answer = x.restore();
        List<String> lines = Told.green(x);
        lines.add("restore() = " + answer);
        return lines;
    }

    private static List<String> scripted(CountedGreen x) {
        int answer = x.script();
        List<String> lines = Told.all(x);
        lines.add("script() = " + answer);
        return lines;
    }
}
