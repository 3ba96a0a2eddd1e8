import java.lang.reflect.InvocationTargetException;
import java.lang.reflect.Method;
import java.util.ArrayList;
import java.util.List;
import java.util.regex.Matcher;
import java.util.regex.Pattern;

/** A call with the answer that is due, read from a text such as "rink(0, 1) = BAD". */
final class Row {
    private static final Pattern FORM = Pattern.compile("(?:(\\d+) \\* )?(\\w+)(?:\\((.*)\\)| '(.*)')(?: = (.*))?");

    private final String text;
    /** How often the call is made. */
    final int times;
    final String name;
    final String[] arguments;
    /** What stands in quotes, or null. */
    final String quoted;
    /** The answer that is due, or null if it only must not be a code. */
    final String answer;

    private Row(String text) {
        Matcher matcher = FORM.matcher(text);
        if (!matcher.matches()) {
            throw new IllegalArgumentException("no row: " + text);
        }
        this.text = text;
        times = matcher.group(1) == null ? 1 : Integer.parseInt(matcher.group(1));
        name = matcher.group(2);
        String inner = matcher.group(3);
        arguments = inner == null || inner.isEmpty() ? new String[0] : inner.split(", ");
        quoted = matcher.group(4);
        answer = matcher.group(5);
    }

    /** The rows of texts, in which "; " outside quotes stands between rows. A script is typed in a row of its own. */
    static List<Row> read(String... texts) {
        List<Row> rows = new ArrayList<>();
        for (String text : texts) {
            for (String part : text.split("; (?=(?:[^']*'[^']*')*[^']*$)")) {
                if (part.startsWith("script '")) {
                    int end = part.indexOf('\'', 8) + 1;
                    rows.add(new Row("type " + part.substring(7, end)));
                    rows.add(new Row("script()" + part.substring(end)));
                } else if (!part.isEmpty()) {
                    rows.add(new Row(part));
                }
            }
        }
        return rows;
    }

    /** Makes the call once. */
    Number call(CountedGreen x) {
        try {
            for (Method method : CountedGreen.class.getDeclaredMethods()) {
                if (method.getName().equals(name) && method.getParameterCount() == arguments.length) {
                    return (Number) method.invoke(x, values(method.getParameterTypes()));
                }
            }
        } catch (IllegalAccessException e) {
            throw new IllegalStateException(text, e);
        } catch (InvocationTargetException e) {
            throw new IllegalStateException(text + " threw " + e.getCause(), e);
        }
        throw new IllegalArgumentException("no call: " + text);
    }

    private Object[] values(Class<?>[] types) {
        Object[] values = new Object[types.length];
        for (int i = 0; i < types.length; i++) {
            if (types[i] == boolean.class) {
                values[i] = Boolean.valueOf(arguments[i]);
            } else if (types[i] == char.class) {
                values[i] = (char) number(arguments[i]);
            } else {
                values[i] = number(arguments[i]);
            }
        }
        return values;
    }

    static int number(String text) {
        return switch (text) {
            case "min" -> Integer.MIN_VALUE;
            case "max" -> Integer.MAX_VALUE;
            case "NONE" -> BowlsGreen.NONE;
            case "BAD" -> BowlsGreen.BAD;
            case "REFUSED" -> BowlsGreen.REFUSED;
            case "NOTHING" -> BowlsGreen.NOTHING;
            default -> Integer.parseInt(text);
        };
    }

    @Override
    public String toString() {
        return text;
    }
}
