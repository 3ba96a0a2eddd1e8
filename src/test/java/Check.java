import java.util.ArrayList;
import java.util.List;
import java.util.Objects;

/** Compares answers with those that are due, prints the wrong ones, and ends a test. */
final class Check {
    private static final int MOST_TOLD = 200;
    private static final long MOST_MILLISECONDS = 300_000;

    private int wrong;
    private String promise = "";
    private final List<Held> held = new ArrayList<>();

    /** A sentence of the document, and the promise in which a test holds the class to it. */
    record Held(int promise, String sentence) {
    }

    Check() {
        Thread watch = new Thread(Check::endLate);
        watch.setDaemon(true);
        watch.start();
    }

    /** A call that never answers must not keep the test from failing. */
    private static void endLate() {
        try {
            Thread.sleep(MOST_MILLISECONDS);
        } catch (InterruptedException e) {
            return;
        }
        System.out.println("no end within " + MOST_MILLISECONDS / 1000 + " seconds");
        Runtime.getRuntime().halt(1);
    }

    void promise(int number) {
        promise = "promise " + number;
    }

    void holds(int number, String sentence) {
        held.add(new Held(number, sentence));
        promise = "promise " + number + ", \"" + sentence + "\"";
    }

    List<Held> held() {
        return held;
    }

    void due(String call, long got, long want) {
        if (got != want) {
            tell(call, got, want);
        }
    }

    void dueDouble(String call, double got, double want) {
        if (got != want) {
            tell(call, got, want);
        }
    }

    void dueText(String call, String got, String want) {
        if (!Objects.equals(got, want)) {
            tell(call, got, want);
        }
    }

    private void tell(String call, Object got, Object want) {
        wrong++;
        if (wrong <= MOST_TOLD) {
            System.out.println(promise + ": " + call + " answered " + got + ", due is " + want);
        }
    }

    void end() {
        System.out.println(wrong == 0 ? "all answers are as due" : wrong + " answers are not as due");
        if (wrong != 0) {
            System.exit(1);
        }
    }

    /** The reasons, from the last one to the one behind all others, as in "12/0 3/8 13/2". */
    static String reasons(CountedGreen green) {
        StringBuilder text = new StringBuilder();
        int reason = green.reason(0, false);
        for (int depth = 0; depth < 10 && reason != BowlsGreen.NOTHING; depth++) {
            text.append(depth == 0 ? "" : " ").append(reason).append('/').append(green.reason(depth, true));
            reason = green.reason(depth + 1, false);
        }
        return text.toString();
    }

    static void type(CountedGreen green, String text) {
        for (char character : text.toCharArray()) {
            green.append(character);
        }
    }

    static int script(CountedGreen green, String text) {
        type(green, text);
        return green.script();
    }

    static String line(CountedGreen green) {
        StringBuilder text = new StringBuilder();
        int code = green.written(0);
        while (code != BowlsGreen.NONE) {
            text.append((char) code);
            code = green.written(text.length());
        }
        return text.toString();
    }

    /** All that changes can change, as far as it is told. */
    static String all(CountedGreen green) {
        return String.join("\n", Told.green(green));
    }
}
