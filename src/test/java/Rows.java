import java.util.ArrayList;
import java.util.HashSet;
import java.util.List;
import java.util.Set;

/**
 * Holds the class to the sentences of the document, each by rows of calls on a new object with the answers that are due.
 *
 * A row is a call as it is written in Java, and behind " = " its answer: a number, or a code by its name. Behind REFUSED
 * stand the reasons with their details ("3/8 13/1"), behind the BAD of script the fault position. A row without an
 * answer must not return a code. "12 * tea(0)" is a row twelve times. type 'r1' appends characters, script 'r1' carries
 * them out too; line '...' and reasons '...' are what is written and what was refused; like 'rows' holds that the green
 * is as on a new object behind these rows.
 */
final class Rows {
    private final Check check;
    private final Set<String> heldBeside = new HashSet<>();
    private List<Row> made;
    private CountedGreen x;

    Rows(Check check) {
        this.check = check;
    }

    /** Also holds what must be so beside each call: what stays as it was, and what undo brings back. */
    void hold(int promise, String sentence, String... texts) {
        carryOut(promise, sentence, true, texts);
    }

    /** Holds the answers alone, where the calls are too many for an object that is looked at all over. */
    void holdLong(int promise, String sentence, String... texts) {
        carryOut(promise, sentence, false, texts);
    }

    private void carryOut(int promise, String sentence, boolean isBeside, String... texts) {
        check.holds(promise, sentence);
        made = new ArrayList<>();
        x = new CountedGreen();
        for (Row row : Row.read(texts)) {
            for (int i = 0; i < row.times; i++) {
                if (isBeside && row.quoted == null) {
                    holdBeside(row);
                }
                carryOut(row);
            }
        }
    }

    private void carryOut(Row row) {
        switch (row.name) {
            case "line" -> check.dueText(row.toString(), Check.line(x), row.quoted);
            case "reasons" -> check.dueText(row.toString(), Check.reasons(x), row.quoted);
            case "like" -> dueLike(row);
            default -> {
                made.add(row);
                if (row.quoted == null) {
                    dueAnswer(row, row.call(x));
                } else {
                    type(row.quoted);
                }
            }
        }
    }

    private void type(String text) {
        int length = x.account(13);
        Check.type(x, text);
        check.due("the characters of " + text, x.account(13), length + text.length());
    }

    private void dueAnswer(Row row, Number got) {
        if (row.answer == null) {
            check.dueText(row + " is no code", "" + (got.doubleValue() < 0), "false");
        } else if (got instanceof Float) {
            check.dueDouble(row.toString(), got.floatValue(), Float.parseFloat(row.answer));
        } else if (got instanceof Double) {
            check.dueDouble(row.toString(), got.doubleValue(), Double.parseDouble(row.answer));
        } else {
            String[] parts = row.answer.split(" ", 2);
            check.due(row.toString(), got.longValue(), Row.number(parts[0]));
            if (parts[0].equals("REFUSED")) {
                check.dueText(row + ": reasons", Check.reasons(x), parts[1]);
            } else if (row.name.equals("script") && parts[0].equals("BAD")) {
                check.due(row + ": fault()", x.fault(), Row.number(parts[1]));
            }
        }
    }

    private void dueLike(Row row) {
        List<Row> rows = Row.read(row.quoted);
        Twins twins = new Twins(check, row.toString());
        twins.dueSame(made, rows, Told::green);
        twins.dueSame(made, rows, Told::goneOn);
    }

    /** The same calls answer the same each time, so that once is enough. */
    private void holdBeside(Row row) {
        if (heldBeside.add(made + " " + row)) {
            new Twins(check, row + " beside").hold(made, row);
        }
    }
}
