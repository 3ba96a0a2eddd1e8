/** The edges of the term Changes, and of the promises 2, 35, 36 and 37: clear, undo, save, restore. */
public final class PastEdgesTest {
    private static final String GREEN = "rink(5, 10); rink(0, 2); wood(0, 3); wood(1, 9)";
    /** Much that is different from a new object. */
    private static final String PLAYED = GREEN + "; begin(0, 30); bowl(0, 0, 5, 13, true) = 1; bowl(0, 1, 5, 19, true) = NOTHING; close(0) = 1;"
        + " begin(0, 25); bowl(0, 0, 5, 10, true) = 2; rain(7); hour(2); sweep(1) = 2; brew(3); tea(1); tea(0); sun(5)";

    /** Rinks and woods with something of all that they can have. */
    private static final String USED = GREEN + "; begin(0, 30); bowl(0, 0, 5, 19, true) = NOTHING; bowl(0, 1, 10, 2, false) = 488; close(0) = 11;"
        + " rain(9); hour(2); rain(0); sun(9); hour(2); begin(0, 20) = 1; bowl(0, 1, 10, 4, false) = 121; bowl(0, 0, 6, 8, true) = 10;"
        + " begin(1, 40) = 0";
    /** The same numbers, but other rinks and woods. */
    private static final String OTHER = "rink(20, 28); rink(11, 15); wood(1, 4); wood(0, 6)";

    static void hold(Check check) {
        Rows rows = new Rows(check);
        changes(rows);
        nothingDifferent(rows);
        eight(rows);
        whatStays(rows);
        clear(rows);
        clearedNumbers(rows);
        undo(rows);
        undoEach(rows);
        undoneEnds(rows);
        save(rows);
        restore(rows);
    }

    private static void changes(Rows rows) {
        rows.hold(35, "The changes are the successful calls of rink, wood, begin, bowl, close, sweep, rain, sun, brew, tea, hour and script",
            "rink(5, 10) = 0; account(14) = 1; wood(0, 0) = 0; account(14) = 2; begin(0, 20) = 0; account(14) = 3",
            "bowl(0, 0, 7, 8, true) = 0; account(14) = 4; close(0) = 1; account(14) = 5; rain(9) = 1; account(14) = 6; sun(0) = 2",
            "account(14) = 7; undo() = 6; hour(1) = 1; account(14) = 7; sweep(0) = 1; account(14) = 8; undo() = 7; undo() = 6; undo() = 5",
            "brew(2) = 14; account(14) = 6; tea(1) = 1; account(14) = 7; script 'r3' = 1; account(14) = 8");
        rows.hold(35, "The changes are the successful calls",
            GREEN, "rink(0, 1) = BAD; rink(2, 4) = REFUSED 2/1; wood(2, 0) = NONE; wood(0, 10) = BAD; begin(2, 20) = NONE; begin(0, 41) = BAD",
            "close(0) = REFUSED 5/0; close(2) = NONE; sweep(0) = REFUSED 9/0; rain(10) = BAD; sun(10) = BAD; brew(21) = BAD; tea(2) = NONE",
            "hour(25) = BAD; script 'r' = BAD 1; script 'r9;c0' = REFUSED 12/1 5/0; account(14) = 4; undo() = 3; account(4) = 1");
        rows.hold(35, "The changes are the successful calls",
            GREEN, "append(114) = 1; rinkOf(0, 0) = 5; woodOf(0, 0) = 0; clubOf(0, 0) = 0; rinkAt(0) = 1; nearest(0, 0) = NOTHING",
            "shots(0, true) = NOTHING; would(0, 0, 5, 8, true) = 720; bestStrength(0, 0, 5, true) = NOTHING; wetIn(0, 3) = 0; castsIn(0, 3) = 0",
            "dryIn(0) = 0; leader() = NOTHING; describe(0) = 9; written(0) = 53; meanWet() = 0.0; winShare() = 0.0; fault() = NOTHING",
            "reason(0, true) = NOTHING; save() = 0; account(14) = 4; undo() = 3; account(4) = 1");
    }

    private static void nothingDifferent(Rows rows) {
        rows.hold(35, "also those by which nothing is different.",
            "rain(1) = 1; account(14) = 1; sun(2) = 2; account(14) = 2; brew(20); brew(8) = 40; brew(1) = 40; account(14) = 5",
            "script 'r1' = 1; account(14) = 6; undo() = 5; undo() = 4; account(8) = 40; undo() = 3; account(8) = 32; undo() = 2; undo() = 1",
            "undo() = 0; undo() = NOTHING");
    }

    private static void eight(Rows rows) {
        rows.hold(35, "The latest 8 can be undone.",
            "rain(2); rain(3); rain(4); rain(5); rain(6); rain(7); rain(8); account(14) = 7; rain(9); account(14) = 8",
            "undo() = 7; undo() = 6; undo() = 5; undo() = 4; undo() = 3; undo() = 2; undo() = 1; account(1) = 2; undo() = 0; account(1) = 1",
            "undo() = NOTHING; account(1) = 1; account(14) = 0");
        rows.hold(35, "The latest 8 can be undone.",
            "rain(2); rain(3); rain(4); rain(5); rain(6); rain(7); rain(8); rain(9); rain(0); account(14) = 8; undo() = 7; account(1) = 9",
            "undo() = 6; undo() = 5; undo() = 4; undo() = 3; undo() = 2; undo() = 1; undo() = 0; account(1) = 2; undo() = NOTHING; account(1) = 2");
        rows.hold(35, "The latest 8 can be undone.",
            "hour(1); hour(2); hour(3); hour(4); hour(5); hour(6); hour(7); hour(8); hour(9); hour(10); hour(11); hour(12); hour(13)",
            "hour(14); hour(15); hour(16); hour(17); account(0) = 153; undo() = 7; undo() = 6; undo() = 5; account(0) = 105; hour(1); hour(2)",
            "account(14) = 7; undo() = 6; undo() = 5; account(0) = 105; undo() = 4; account(0) = 91; undo() = 3; undo() = 2; undo() = 1",
            "undo() = 0; account(0) = 45; undo() = NOTHING; account(0) = 45");
    }

    private static void whatStays(Rows rows) {
        rows.hold(35, "The input, the fault position, the reasons and the written line are neither undone nor saved, and stay.",
            "rink(0, 2); rain(9); hour(1); describe(0) = 10; line '0-2: wet 7'; script 'x' = BAD 0; close(0) = REFUSED 5/0; type 'r5'",
            "undo() = 2; undo() = 1; undo() = 0; line '0-2: wet 7'; fault() = 0; reasons '5/0'; account(13) = 2; script() = 1; account(1) = 5");
        rows.hold(37, "The input, the fault position, the reasons and the written line are neither undone nor saved, and stay.",
            "rink(0, 2); describe(0) = 8; script 'r1;x' = BAD 3; close(0) = REFUSED 5/0; type 'r5'; save() = 0; script() = 1; rain(9); hour(1)",
            "describe(0) = 10; script 'x' = BAD 0; sweep(0) = 1; tea(1); begin(0, 20); begin(0, 25) = REFUSED 4/20; type 'h1'; restore() = 0",
            "line '0-2: wet 7'; fault() = 0; reasons '4/20'; account(13) = 2; account(1) = 1; script() = 1; account(0) = 1");
    }

    private static void clear(Rows rows) {
        rows.hold(2, "Makes everything as in a new object, except the input, the fault position, the reasons, the written line and what was"
            + " saved.",
            PLAYED, "clear() = 2; like ''; account(14) = 0; save() = 0; restore() = 0; like ''");
        rows.hold(2, "except the input, the fault position, the reasons, the written line and what was saved.",
            PLAYED, "save() = 2; describe(1) = 11; line '0-2: wet 10'; script 'r1;;' = BAD 3; close(1) = REFUSED 5/1; type 's7;r0'; clear() = 2",
            "like ''; line '0-2: wet 10'; fault() = 3; reasons '5/1'; account(13) = 5; script() = 2; account(2) = 7; restore() = 2",
            "like '" + PLAYED + "'; account(14) = 0");
        rows.hold(2, "Makes everything as in a new object",
            PLAYED, "clear() = 2", GREEN, "like '" + GREEN + "'; begin(0, 30) = 0; bowl(0, 0, 5, 13, true) = 1; account(14) = 6; undo() = 5; undo() = 4",
            "undo() = 3; undo() = 2; undo() = 1; undo() = 0; like ''; undo() = NOTHING");
        rows.hold(2, "Nothing can be undone then.",
            "undo() = NOTHING; rain(2); clear() = 0; undo() = NOTHING; account(14) = 0; account(1) = 1; 9 * hour(1); clear() = 9; undo() = NOTHING",
            "account(0) = 0; sun(4); account(14) = 1; undo() = 0; undo() = NOTHING; account(2) = 2");
        rows.hold(2, "Returns the hour that it was.", "clear() = 0; hour(1); clear() = 1; clear() = 0; hour(24); hour(24); clear() = 48; account(0) = 0");
    }

    /** Rinks and woods with numbers that others had before know nothing of those. */
    private static void clearedNumbers(Rows rows) {
        String sentence = "Makes everything as in a new object";
        rows.hold(2, sentence, USED, "clear() = 4", GREEN, "like '" + GREEN + "'; rinkOf(0, 3) = 0; rinkOf(0, 5) = 0; begin(0, 30) = 0");
        rows.hold(2, sentence, USED, "clear() = 4", OTHER, "like '" + OTHER + "'; begin(1, 30) = 0; bowl(1, 1, 12, 4, true) = 325");
        rows.hold(2, sentence,
            USED, "clear() = 4; rink(5, 10); wood(0, 0); begin(0, 30) = 0; rinkOf(0, 6) = 0; rinkOf(0, 7) = 0; nearest(0, 0) = NOTHING",
            "shots(0, false) = 0; shots(0, true) = 0; would(0, 0, 8, 8, true) = 820; account(12) = 1; account(5) = 1; describe(0) = 13",
            "line '5-10: dry j30'; bestStrength(0, 0, 7, true) = 13; close(0) = 0; clubOf(1, 4) = 0; rink(0, 2); rinkOf(1, 4) = 0");
        rows.hold(2, sentence,
            USED, "clear() = 4; rain(9); sun(0); hour(1) = 0; account(10) = 0; meanWet() = 0.0; rink(5, 10); meanWet() = 0.0; hour(1) = 1");
    }

    private static void undo(Rows rows) {
        rows.hold(35, "Undoes the latest change.",
            "rain(5); sun(6); undo() = 1; account(2) = 2; account(1) = 5; sun(7); undo() = 1; account(2) = 2; undo() = 0; account(1) = 1");
        rows.hold(35, "Returns the number of changes that can still be undone;",
            "rain(2); undo() = 0; rain(2); rain(3); undo() = 1; 9 * rain(4); undo() = 7; undo() = 6; account(14) = 6");
        rows.hold(35, "NOTHING if there is none.",
            "undo() = NOTHING; append(32) = 1; rain(10) = BAD; save() = 0; undo() = NOTHING; rain(9); undo() = 0; undo() = NOTHING",
            "undo() = NOTHING; rain(9); restore() = 0; undo() = NOTHING; rain(9); clear() = 0; undo() = NOTHING; account(14) = 0");
    }

    private static void undoEach(Rows rows) {
        rows.hold(35, "Undoes the latest change.",
            PLAYED, "rink(20, 22) = 2; wood(1, 4) = 2; close(0) = 1; bowl(0, 0, 5, 8, true) = REFUSED 5/0; hour(3); sweep(1) = 3; rain(0); sun(9)",
            "hour(2); begin(1, 40); brew(20); tea(0); script 'b1,0@1*13+;b1,2@1*9-;c1;h2;t1;e1:20' = 6; begin(0, 20) = 0");
        rows.hold(35, "Undoes the latest change.",
            "rink(5, 10); wood(0, 0); wood(1, 0); begin(0, 30); bowl(0, 0, 7, 1, true); bowl(0, 1, 7, 13, true) = 0; close(0) = 11; undo() = 6",
            "like 'rink(5, 10); wood(0, 0); wood(1, 0); begin(0, 30); bowl(0, 0, 7, 1, true); bowl(0, 1, 7, 13, true)'; undo() = 5; close(0) = 1",
            "begin(0, 30) = 0; undo() = 6; undo() = 5; rinkOf(0, 5) = 1; bowl(0, 1, 7, 13, true) = 0");
    }

    /** Who won the latest end shows in the next end that nobody wins. */
    private static void undoneEnds(Rows rows) {
        String begun = "rink(5, 10); wood(0, 0); wood(1, 0); begin(0, 30); bowl(0, 0, 7, 1, true); bowl(0, 1, 7, 13, true) = 0";
        rows.hold(35, "Undoes the latest change.",
            begun, "close(0) = 11; undo() = 6; undo() = 5; undo() = 4; close(0) = 0; rinkOf(0, 5) = 0; begin(0, 30) = 0; undo() = 5; undo() = 4",
            "undo() = 3; undo() = 2; undo() = 1; undo() = 0; rink(0, 2) = 0; rinkOf(0, 0) = 0; rinkOf(0, 1) = 2; wood(1, 7) = 0; woodOf(0, 0) = 1");
        rows.hold(37, "Restores what was saved",
            begun, "save() = 0; close(0) = 11; restore() = 0; undo() = NOTHING; like '" + begun + "'; close(0) = 11; begin(0, 30) = 1; restore() = 0",
            "bowl(0, 0, 7, 1, true) = REFUSED 7/0; close(0) = 11; save() = 0; begin(0, 30) = 1; bowl(0, 1, 7, 1, true); bowl(0, 0, 7, 2, true)",
            "close(0) = 1; rinkOf(0, 5) = 0; restore() = 0; rinkOf(0, 5) = 1; begin(0, 30) = 1; close(0) = 0; rinkOf(0, 5) = 1");
    }

    private static void save(Rows rows) {
        rows.hold(36, "Saves all that changes can change, in place of what was saved before.",
            PLAYED, "save() = 2; close(0) = 1; clear() = 2; restore() = 2; like '" + PLAYED + "'; hour(1); close(0) = 1; save() = 3; clear() = 3",
            "restore() = 3; like '" + PLAYED + "; hour(1); close(0)'; clear() = 3; save() = 0; restore() = 0; like ''");
        rows.hold(36, "Saves all that changes can change",
            GREEN, "rain(9); save() = 0; undo() = 4; undo() = 3; restore() = 0; like '" + GREEN + "; rain(9)'; account(14) = 0");
        rows.hold(36, "Returns the hour.", "save() = 0; hour(1); save() = 1; hour(24); save() = 25; undo() = 1; save() = 1; clear() = 1; save() = 0");
    }

    private static void restore(Rows rows) {
        rows.hold(37, "Restores what was saved, which stays saved.",
            GREEN, "save() = 0; begin(0, 20); rain(9); restore() = 0; like '" + GREEN + "'; hour(3); rink(11, 13) = 2; wood(0, 0); restore() = 0",
            "like '" + GREEN + "'; clear() = 0; restore() = 0; like '" + GREEN + "'; undo() = NOTHING; restore() = 0");
        rows.hold(37, "Restores what was saved, which stays saved.",
            USED, "save() = 4; clear() = 4", OTHER, "restore() = 4; like '" + USED + "'; clear() = 4; restore() = 4; like '" + USED + "'");
        rows.hold(37, "Restores what was saved",
            "save() = 0", USED, "restore() = 0; like ''", OTHER, "like '" + OTHER + "'; restore() = 0; like ''");
        rows.hold(37, "Nothing can be undone then.",
            "rain(2); save() = 0; rain(3); account(14) = 2; restore() = 0; account(14) = 0; undo() = NOTHING; account(1) = 2; sun(1); undo() = 0",
            "account(2) = 2; undo() = NOTHING; 9 * sun(3); restore() = 0; undo() = NOTHING; account(2) = 2");
        rows.hold(37, "Returns the hour;", "save() = 0; hour(5); restore() = 0; hour(7); save() = 7; hour(24); restore() = 7; account(0) = 7");
        rows.hold(37, "NOTHING if nothing was saved.",
            "restore() = NOTHING; hour(3); account(14) = 1; restore() = NOTHING; account(0) = 3; account(14) = 1; clear() = 3; restore() = NOTHING",
            "save() = 0; restore() = 0; clear() = 0; restore() = 0");
    }

    public static void main(String[] args) {
        Check check = new Check();
        hold(check);
        check.end();
    }
}
