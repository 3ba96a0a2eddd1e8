/** Promises 2, 35, 36 and 37: clear, undo, save, restore. */
public final class PastTest {
    private static final int NONE = BowlsGreen.NONE;
    private static final int BAD = BowlsGreen.BAD;
    private static final int REFUSED = BowlsGreen.REFUSED;
    private static final int NOTHING = BowlsGreen.NOTHING;
    private static final Check CHECK = new Check();

    /** A green on which much has changed. */
    private static CountedGreen changed() {
        CountedGreen x = new CountedGreen();
        x.rink(5, 10);
        x.rink(15, 20);
        x.wood(0, 3);
        x.wood(1, 9);
        x.wood(0, 0);
        x.wood(1, 4);
        x.begin(1, 30);
        x.bowl(1, 0, 16, 13, true);
        x.close(1);
        x.begin(0, 30);
        x.bowl(0, 0, 5, 13, true);
        x.bowl(0, 1, 5, 20, false);
        x.bowl(0, 2, 6, 13, false);
        x.rain(8);
        x.hour(5);
        x.rain(3);
        x.sun(4);
        x.sweep(1);
        x.hour(1);
        x.brew(7);
        x.tea(1);
        return x;
    }

    private static void clear() {
        CHECK.promise(2);
        CountedGreen x = changed();
        String fresh = Check.all(new CountedGreen());
        x.save();
        String saved = Check.all(x);
        x.describe(0);
        String line = Check.line(x);
        x.rink(0, 5);
        Check.script(x, "r1;y");
        Check.type(x, "t0;t1");
        CHECK.due("clear()", x.clear(), 6);
        CHECK.dueText("as in a new object", Check.all(x), fresh);
        CHECK.due("account(13)", x.account(13), 5);
        CHECK.due("account(14)", x.account(14), 0);
        CHECK.due("undo()", x.undo(), NOTHING);
        CHECK.due("fault()", x.fault(), 3);
        CHECK.dueText("reasons", Check.reasons(x), "2/0");
        CHECK.dueText("line", Check.line(x), line);
        CHECK.due("clear()", x.clear(), 0);
        CHECK.due("rink(0, 3)", x.rink(0, 3), 0);
        CHECK.due("rinkOf(0, 8)", x.rinkOf(0, 8), 0);
        CHECK.due("wood(0, 1)", x.wood(0, 1), 0);
        CHECK.due("woodOf(0, 7)", x.woodOf(0, 7), 0);
        CHECK.due("account(14)", x.account(14), 2);
        CHECK.due("script()", x.script(), 2);
        CHECK.due("restore()", x.restore(), 6);
        CHECK.dueText("what was saved stays", Check.all(x), saved);
    }

    private static void lay(CountedGreen x) {
        for (int i = 0; i < 2; i++) {
            x.rink(5 * i, 5 * i + 4);
            x.wood(1 - i, i);
        }
    }

    /** Rinks and woods with numbers that others had before know nothing of those. */
    private static void laidAnew() {
        CHECK.promise(2);
        CountedGreen fresh = new CountedGreen();
        lay(fresh);
        CountedGreen x = new CountedGreen();
        lay(x);
        x.begin(0, 20);
        x.bowl(0, 1, 2, 20, true);
        x.bowl(0, 0, 2, 8, true);
        CHECK.due("close(0)", x.close(0), 11);
        x.rain(9);
        x.hour(1);
        x.begin(0, 20);
        x.bowl(0, 0, 2, 8, true);
        x.clear();
        lay(x);
        CHECK.dueText("as on a new green", Check.all(x), Check.all(fresh));
        CHECK.due("begin(0, 20)", x.begin(0, 20), 0);
        CHECK.due("bowl(0, 1, 2, 8, true)", x.bowl(0, 1, 2, 8, true), 0);
    }

    private static void change(CountedGreen x, int number) {
        switch (number) {
            case 0 -> CHECK.due("rink", x.rink(21, 25), 2);
            case 1 -> CHECK.due("wood", x.wood(1, 1), 4);
            case 2 -> CHECK.due("begin", x.begin(1, 20), 0);
            case 3 -> CHECK.due("bowl", x.bowl(0, 3, 5, 13, true), 90);
            case 4 -> CHECK.due("bowl of a dead wood", x.bowl(0, 3, 8, 13, true), NOTHING);
            case 5 -> CHECK.due("close", x.close(0), 2);
            case 6 -> CHECK.due("sweep", x.sweep(1), 1);
            case 7 -> CHECK.due("rain", x.rain(5), 3);
            case 8 -> CHECK.due("sun", x.sun(5), 4);
            case 9 -> CHECK.due("brew", x.brew(3), 19);
            case 10 -> CHECK.due("tea", x.tea(0), 1);
            case 11 -> CHECK.due("hour", x.hour(3), 4);
            default -> CHECK.due("script", Check.script(x, "c0;r9;t1;w1"), 4);
        }
    }

    private static void undoEach() {
        CHECK.promise(35);
        for (int number = 0; number < 13; number++) {
            CountedGreen x = changed();
            String before = Check.all(x);
            if (number == 2) { // an end can begin on a dry rink alone
                x.sun(9);
                x.hour(2);
                before = Check.all(x);
            }
            change(x, number);
            CHECK.due("account(14)", x.account(14), 8);
            CHECK.due("undo() of " + number, x.undo(), 7);
            CHECK.dueText("undone " + number, Check.all(x), before);
        }
    }

    /** What bowling and closing change, and what shows only in the ends to come. */
    private static void undoInEnds() {
        CHECK.promise(35);
        CountedGreen x = new CountedGreen();
        x.rink(5, 10);
        for (int i = 0; i < 10; i++) {
            x.wood(i % 2, 0);
        }
        x.begin(0, 30);
        for (int i = 0; i < 8; i++) {
            x.bowl(0, i, 7, 20, true);
        }
        x.undo();
        x.undo();
        CHECK.due("bowl(0, 8, 7, 13, true): the fourth again", x.bowl(0, 8, 7, 13, true), 0);
        CHECK.due("bowl(0, 9, 7, 14, true)", x.bowl(0, 9, 7, 14, true), 4);
        CHECK.due("bowl(0, 6, 7, 13, true)", x.bowl(0, 6, 7, 13, true), REFUSED);
        CHECK.dueText("reasons", Check.reasons(x), "8/4");
        x.undo();
        x.undo();
        x.undo();
        x.bowl(0, 7, 7, 13, true);
        CHECK.due("close(0)", x.close(0), 11);
        x.undo();
        x.undo();
        CHECK.due("close(0): nobody counts", x.close(0), 0);
        CHECK.due("begin(0, 30): nobody won an end", x.begin(0, 30), 0);
    }

    private static void undoEight() {
        CHECK.promise(35);
        CountedGreen x = new CountedGreen();
        CHECK.due("undo()", x.undo(), NOTHING);
        for (int i = 1; i <= 9; i++) {
            x.rain(i);
            CHECK.due("account(14)", x.account(14), Math.min(8, i));
        }
        x.rain(10);
        x.close(0);
        for (int left = 7; left >= 0; left--) {
            CHECK.due("undo()", x.undo(), left);
            CHECK.due("account(1)", x.account(1), left + 1);
            CHECK.due("account(14)", x.account(14), left);
        }
        CHECK.due("undo()", x.undo(), NOTHING);
        CHECK.due("account(1)", x.account(1), 1);
        x.sun(7);
        x.sun(8);
        x.undo();
        x.sun(9);
        CHECK.due("undo()", x.undo(), 1);
        CHECK.due("account(2)", x.account(2), 7);
        CHECK.due("undo()", x.undo(), 0);
        CHECK.due("account(2)", x.account(2), 2);
    }

    private static void whatStays() {
        CHECK.promise(35);
        CountedGreen x = new CountedGreen();
        x.rink(0, 5);
        x.rain(3);
        x.describe(0);
        x.save();
        x.close(0);
        Check.script(x, "-");
        Check.type(x, "r0");
        x.hour(1);
        CHECK.due("undo()", x.undo(), 2);
        CHECK.due("undo()", x.undo(), 1);
        CHECK.due("undo()", x.undo(), 0);
        CHECK.due("account(13)", x.account(13), 2);
        CHECK.due("fault()", x.fault(), 0);
        CHECK.dueText("reasons", Check.reasons(x), "5/0");
        CHECK.dueText("line", Check.line(x), "0-5: dry");
        CHECK.due("restore(): what was saved is not undone", x.restore(), 0);
        CHECK.due("account(1)", x.account(1), 3);
    }

    private static void codesAreNoChanges() {
        CHECK.promise(35);
        CountedGreen x = changed();
        x.undo();
        String before = Check.all(x);
        int[] answers = {x.rink(0, 1), x.rink(0, 5), x.wood(2, 0), x.wood(0, 10), x.begin(2, 20), x.begin(1, 19),
            x.begin(0, 20), x.bowl(2, 0, 0, 0, true), x.bowl(0, 3, 0, 0, true), x.bowl(0, 0, 8, 9, true), x.close(2),
            x.close(1), x.sweep(2), x.sweep(0), x.rain(10), x.sun(10), x.brew(0), x.tea(2), x.hour(0), x.script(),
            Check.script(x, "r1;w0")};
        int[] codes = {BAD, REFUSED, NONE, BAD, NONE, BAD, REFUSED, NONE, BAD, REFUSED, NONE,
            REFUSED, NONE, REFUSED, BAD, BAD, BAD, NONE, BAD, BAD, REFUSED};
        for (int i = 0; i < answers.length; i++) {
            CHECK.due("call " + i, answers[i], codes[i]);
        }
        CHECK.dueText("everything as it was", Check.all(x), before);
        CHECK.due("account(14)", x.account(14), 7);
    }

    private static void save() {
        CHECK.promise(36);
        CountedGreen x = changed();
        String before = Check.all(x);
        CHECK.due("save()", x.save(), 6);
        CHECK.due("account(14)", x.account(14), 8);
        CHECK.dueText("nothing is different", Check.all(x), before);
        x.hour(4);
        x.close(0);
        x.bowl(1, 0, 16, 5, true);
        x.rink(0, 3);
        x.wood(0, 0);
        x.tea(0);
        CHECK.due("restore()", x.restore(), 6);
        CHECK.dueText("as it was", Check.all(x), before);
        x.hour(4);
        String later = Check.all(x);
        CHECK.due("save() in place of the other", x.save(), 10);
        x.clear();
        CHECK.due("restore()", x.restore(), 10);
        CHECK.dueText("as it was later", Check.all(x), later);
    }

    private static void restore() {
        CHECK.promise(37);
        CountedGreen x = changed();
        CHECK.due("restore()", x.restore(), NOTHING);
        CHECK.due("account(14)", x.account(14), 8);
        x.save();
        String saved = Check.all(x);
        x.hour(2);
        x.describe(0);
        String line = Check.line(x);
        x.close(1);
        Check.script(x, "r1;");
        Check.type(x, "abc");
        for (int i = 0; i < 2; i++) {
            CHECK.due("restore()", x.restore(), 6);
            CHECK.dueText("it stays saved", Check.all(x), saved);
            CHECK.due("account(14)", x.account(14), 0);
            CHECK.due("undo()", x.undo(), NOTHING);
            CHECK.due("account(13)", x.account(13), 3);
            CHECK.due("fault()", x.fault(), 3);
            CHECK.dueText("reasons", Check.reasons(x), "5/1");
            CHECK.dueText("line", Check.line(x), line);
            x.sun(9);
            x.close(0);
            x.hour(5);
            CHECK.due("account(14)", x.account(14), 3);
            x.script();
            Check.script(x, "r1;");
            Check.type(x, "abc");
            x.close(1);
        }
        CHECK.due("undo()", x.undo(), 2);
        x.undo();
        x.undo();
        CHECK.dueText("undone to what was restored", Check.all(x), saved);
    }

    public static void main(String[] args) {
        clear();
        laidAnew();
        undoEach();
        undoInEnds();
        undoEight();
        whatStays();
        codesAreNoChanges();
        save();
        restore();
        CHECK.end();
    }
}
