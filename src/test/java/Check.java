import java.util.Objects;

/** Compares answers with those that are due, prints the wrong ones, and ends a test. */
final class Check {
    private int wrong;
    private String promise = "";

    void promise(int number) {
        promise = "promise " + number;
    }

    void due(String call, long got, long want) {
        if (got != want) {
            tell(call, got, want);
        }
    }

    void dueDouble(String call, double got, double want) {
        if (got != want) {
            tell(call, got, want);
        }
    }

    void dueText(String call, String got, String want) {
        if (!Objects.equals(got, want)) {
            tell(call, got, want);
        }
    }

    private void tell(String call, Object got, Object want) {
        wrong++;
        System.out.println(promise + ": " + call + " answered " + got + ", due is " + want);
    }

    void end() {
        System.out.println(wrong == 0 ? "all answers are as due" : wrong + " answers are not as due");
        if (wrong != 0) {
            System.exit(1);
        }
    }

    /** The reasons, from the last one to the one behind all others, as in "12/0 3/8 13/2". */
    static String reasons(BowlsGreen green) {
        StringBuilder text = new StringBuilder();
        for (int depth = 0; depth < 10 && green.reason(depth, false) != BowlsGreen.NOTHING; depth++) {
            text.append(depth == 0 ? "" : " ").append(green.reason(depth, false));
            text.append('/').append(green.reason(depth, true));
        }
        return text.toString();
    }

    static void type(BowlsGreen green, String text) {
        for (char character : text.toCharArray()) {
            green.append(character);
        }
    }

    static int script(BowlsGreen green, String text) {
        type(green, text);
        return green.script();
    }

    static String line(BowlsGreen green) {
        StringBuilder text = new StringBuilder();
        for (int i = 0; green.written(i) != BowlsGreen.NONE; i++) {
            text.append((char) green.written(i));
        }
        return text.toString();
    }

    /** All that is told of a green, but for the reasons, the fault position and the written line. */
    static String all(BowlsGreen green) {
        StringBuilder text = new StringBuilder();
        for (int what = 0; what <= 12; what++) {
            text.append(green.account(what)).append(' ');
        }
        for (int rink = 0; rink < 4; rink++) {
            for (int what = 0; what <= 8; what++) {
                text.append(green.rinkOf(rink, what)).append(' ');
            }
        }
        for (int wood = 0; wood < 16; wood++) {
            for (int what = 0; what <= 7; what++) {
                text.append(green.woodOf(wood, what)).append(' ');
            }
        }
        for (int club = 0; club < 2; club++) {
            for (int what = 0; what <= 5; what++) {
                text.append(green.clubOf(club, what)).append(' ');
            }
        }
        return text.toString();
    }
}
