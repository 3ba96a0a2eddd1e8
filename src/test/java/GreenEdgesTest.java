/** The edges of the terms Green and Woods, and of the promises 1, 3, 4, 5 and 21: a new object, append, rink, wood, rinkAt. */
public final class GreenEdgesTest {
    private static final String FOUR_RINKS = "rink(20, 22) = 0; rink(0, 2) = 1; rink(27, 29) = 2; rink(10, 12) = 3";
    private static final String FIFTY_NINE = "type '12345678 1 2345678 2 2345678 3 2345678 4 2345678 5 2345678 '";

    static void hold(Check check) {
        Rows rows = new Rows(check);
        newObject(rows);
        mostCalls(rows);
        rinkTerms(rows);
        slowRinks(rows);
        woodTerms(rows);
        append(rows);
        rink(rows);
        wood(rows);
        rinkAt(rows);
    }

    private static void newObject(Rows rows) {
        rows.hold(1, "Creates a green without rinks and woods.",
            "account(3) = 0; account(4) = 0; rinkOf(0, 0) = NONE; woodOf(0, 0) = NONE; rinkAt(0) = NONE; nearest(0, 0) = NONE",
            "account(0) = 0; account(5) = 0; account(6) = 0; account(7) = 0; account(9) = 0; account(10) = 0; account(11) = 0",
            "account(12) = 0; account(13) = 0; account(14) = 0; clubOf(0, 4) = 0; clubOf(1, 4) = 0; clubOf(0, 5) = 0",
            "begin(0, 20) = NONE; close(0) = NONE; sweep(0) = NONE; shots(0, false) = NONE; shots(0, true) = NONE",
            "wetIn(0, 0) = NONE; castsIn(0, 0) = NONE; dryIn(0) = NONE; describe(0) = NONE; line ''; reasons ''",
            "bowl(0, 0, 0, 1, true) = NONE; would(0, 0, 0, 1, true) = NONE; bestStrength(0, 0, 0, true) = NONE",
            "meanWet() = 0.0; winShare() = 0.0; leader() = NOTHING; fault() = NOTHING; undo() = NOTHING; restore() = NOTHING");
    }

    private static void mostCalls(Rows rows) {
        String sentence = "An object is used for at most 512 calls after it has been made;";
        rows.holdLong(1, sentence, "rain(3) = 1; 510 * rain(3) = 3; rain(4) = 3");
        rows.holdLong(1, sentence, "rink(0, 2); 502 * hour(24) = 0",
            "undo() = 7; undo() = 6; undo() = 5; undo() = 4; undo() = 3; undo() = 2; undo() = 1; undo() = 0; account(0) = 11856");
        rows.holdLong(1, sentence, "511 * hour(24) = 0; account(0) = 12264");
        rows.holdLong(1, sentence, "rink(0, 2); 510 * describe(0) = 8; written(7) = 121");
        rows.holdLong(1, sentence, "255 * script() = BAD 0; append(114) = 1; append(57) = 2");
        rows.holdLong(1, sentence, "rink(27, 29); 510 * rink(0, 1) = BAD; account(14) = 1");
        rows.holdLong(1, sentence, "509 * clear() = 0; save() = 0; hour(1) = 0; restore() = 0");
        rows.holdLong(1, sentence, "rink(0, 2); wood(0, 0); 509 * would(0, 0, 1, 18, true) = 140; woodOf(0, 7) = 0");
        rows.holdLong(1, sentence, "rink(0, 2); wood(0, 0)",
            "begin(0, 20) = 0; 508 * bowl(0, 0, 3, 8, true) = BAD; bowl(0, 0, 1, 8, true) = 0");
    }

    private static void rinkTerms(Rows rows) {
        rows.hold(4, "The green has the columns 0 to 29",
            "rink(-1, 1) = BAD; rink(28, 30) = BAD; rink(-3, -1) = BAD; rink(30, 32) = BAD; account(3) = 0; account(14) = 0",
            "rink(0, 2) = 0; rink(27, 29) = 1; rinkOf(0, 0) = 0; rinkOf(1, 1) = 29");
        rows.hold(4, "At most 4 rinks are kept, numbered from 0, each between two strings, with the columns from the first to the"
            + " last one",
            FOUR_RINKS, "account(3) = 4; rink(14, 16) = REFUSED 1/4; account(3) = 4; rinkOf(3, 0) = 10; rinkOf(3, 1) = 12",
            "rinkOf(4, 0) = NONE; rinkOf(0, 0) = 20; rinkOf(0, 1) = 22; undo() = 3; rink(14, 16) = 3; rinkOf(3, 0) = 14");
        rows.hold(4, "at least 3 and at most 10 of them",
            "rink(4, 5) = BAD; rink(4, 6) = 0; rink(10, 20) = BAD; rink(10, 19) = 1; rink(22, 22) = BAD; rink(25, 22) = BAD",
            "rink(29, 20) = BAD; rink(0, 29) = BAD; account(3) = 2");
        rows.hold(4, "no column is in two rinks",
            "rink(10, 14) = 0; rink(14, 16) = REFUSED 2/0; rink(8, 10) = REFUSED 2/0; rink(11, 13) = REFUSED 2/0",
            "rink(10, 14) = REFUSED 2/0; rink(9, 15) = REFUSED 2/0; rink(15, 17) = 1; rink(7, 9) = 2; account(3) = 3");
        rows.hold(7, "The middle column of a rink is the half of the sum of its first and its last one.",
            "rink(5, 10); rink(0, 4); rink(20, 29); rink(11, 13); wood(0, 0); wood(0, 0); wood(0, 0); wood(0, 0)",
            "begin(0, 30); begin(1, 30); begin(2, 30); begin(3, 30); bowl(0, 0, 7, 13, true) = 0; bowl(1, 1, 2, 13, true) = 0",
            "bowl(2, 2, 24, 13, true) = 0; bowl(3, 3, 12, 13, true) = 0");
        rows.hold(7, "divisions are rounded down.",
            "rink(0, 5); wood(0, 9); wood(1, 0); begin(0, 20); bowl(0, 0, 2, 1, true) = 196; woodOf(0, 4) = 2",
            "bowl(0, 1, 3, 8, true) = 1; rain(3); hour(1); rinkOf(0, 2) = 1; would(0, 1, 0, 1, true) = 6; would(0, 0, 0, 3, true) = 210");
    }

    private static void slowRinks(Rows rows) {
        rows.hold(4, "A rink is wet by 0 to 20, and has casts of worms from 0 to 9, both 0 at first.",
            "rink(0, 2); rinkOf(0, 2) = 0; rinkOf(0, 3) = 0; hour(1); rinkOf(0, 2) = 0; rinkOf(0, 3) = 0; rain(9); sun(0)",
            "hour(2) = 2; rinkOf(0, 2) = 18; hour(1) = 3; rinkOf(0, 2) = 20; hour(5) = 8; rinkOf(0, 3) = 8; hour(1) = 9",
            "hour(1) = 9; rinkOf(0, 2) = 20; rinkOf(0, 3) = 9; rink(3, 5) = 1; rinkOf(1, 2) = 0; rinkOf(1, 3) = 0",
            "rain(0); sun(9); hour(3); rinkOf(0, 2) = 0; rinkOf(0, 3) = 9");
        rows.hold(24, "and the lengths 0 to 40.",
            "rink(0, 2); wood(0, 0); would(0, 0, 1, 18, true) = 140; would(0, 0, 1, 19, true) = NOTHING",
            "rain(9); sun(0); hour(8) = 8; would(0, 0, 1, 8, true) = 102; would(0, 0, 1, 7, true) = 100",
            "would(0, 0, 1, 6, true) = 100; would(0, 0, 1, 1, true) = 100");
    }

    private static void woodTerms(Rows rows) {
        rows.hold(5, "At most 16 woods are kept, numbered from 0",
            "wood(0, 1) = 0; 14 * wood(1, 9); wood(1, 5) = 15; account(4) = 16; wood(0, 0) = REFUSED 1/16; account(4) = 16",
            "woodOf(15, 1) = 5; woodOf(16, 1) = NONE; woodOf(0, 1) = 1; clubOf(0, 4) = 1; undo() = 7; wood(0, 0) = 15");
        rows.hold(5, "each of the club 0 or 1",
            "wood(-1, 0) = NONE; wood(0, 0) = 0; wood(1, 0) = 1; wood(2, 0) = NONE; woodOf(0, 0) = 0; woodOf(1, 0) = 1");
        rows.hold(5, "with a bias from 0 to 9.",
            "wood(0, -1) = BAD; wood(0, 0) = 0; wood(0, 9) = 1; wood(0, 10) = BAD; woodOf(0, 1) = 0; woodOf(1, 1) = 9");
        rows.hold(19, "A wood is in the shed, as at first, lies on a rink, or is dead, which is also on its rink, without a place.",
            "rink(0, 2); rink(3, 5); wood(0, 0); wood(1, 0); woodOf(0, 2) = 0; woodOf(0, 3) = NOTHING; begin(1, 20)",
            "bowl(1, 0, 3, 8, true) = 1; woodOf(0, 2) = 1; woodOf(0, 3) = 1; woodOf(0, 4) = 3; woodOf(0, 5) = 20; woodOf(0, 6) = 1",
            "bowl(1, 1, 3, 19, true) = NOTHING; woodOf(1, 2) = 2; woodOf(1, 3) = 1; woodOf(1, 4) = NOTHING",
            "woodOf(1, 5) = NOTHING; woodOf(1, 6) = NOTHING; rinkOf(1, 6) = 1; rinkOf(1, 7) = 1; account(12) = 0; close(1) = 1",
            "woodOf(0, 2) = 0; woodOf(1, 2) = 0; woodOf(0, 3) = NOTHING; woodOf(1, 3) = NOTHING; account(12) = 2");
    }

    private static void append(Rows rows) {
        rows.hold(3, "The input has at most 60 characters, with codes from 32 to 126.",
            "append(31) = BAD; append(32) = 1; append(126) = 2; append(127) = BAD; account(13) = 2; script() = BAD 0",
            FIFTY_NINE, "account(13) = 59; append(57) = 60; append(57) = BAD; account(13) = 60; script() = BAD 0",
            "append(57) = 1; account(13) = 1");
        rows.hold(3, "Appends a character to the input.",
            "append(114) = 1; append(55) = 2; account(1) = 1; account(14) = 0; script() = 1; account(1) = 7");
        rows.hold(3, "Returns the length of the input then;", "append(32) = 1; append(32) = 2; append(32) = 3; account(13) = 3");
        rows.hold(3, "BAD if its code is out of range",
            "append(0) = BAD; append(9) = BAD; append(31) = BAD; append(127) = BAD; append(128) = BAD; append(255) = BAD",
            "append(256) = BAD; append(305) = BAD; append(65535) = BAD; append(32768) = BAD; account(13) = 0",
            "type 's'; append(31) = BAD; append(127) = BAD; append(55) = 2; script() = 1; account(2) = 7");
        rows.hold(3, "or there are 60.",
            "type 'r1;s1;r2;s2;r3;s3;r4;s4;r5;s5;r6;s6;r7;s7;r8;s8;r9;s9;r0;h1'; account(13) = 59",
            "append(50) = 60; append(51) = BAD; append(127) = BAD; account(13) = 60; script() = 20; account(0) = 12");
    }

    private static void rink(Rows rows) {
        rows.hold(4, "Lays two strings for a rink.", "rink(7, 12) = 0; rinkOf(0, 0) = 7; rinkOf(0, 1) = 12; account(14) = 1");
        rows.hold(4, "Returns the number of the rink;", FOUR_RINKS);
        rows.hold(4, "BAD if a column is out of range",
            "rink(-1, 2) = BAD; rink(27, 30) = BAD; rink(min, max) = BAD; rink(max, min) = BAD; rink(min, 2) = BAD",
            "rink(27, max) = BAD; rink(2147483645, max) = BAD; rink(min, -2147483646) = BAD; rink(min, min) = BAD",
            "rink(max, -2147483647) = BAD; rink(max, -2147483640) = BAD; rink(2147483646, min) = BAD; rink(2147483639, min) = BAD",
            "rink(max, max) = BAD; account(3) = 0; account(14) = 0; rink(0, 3) = 0; rink(26, 29) = 1; rink(-1, 2) = BAD");
        rows.hold(4, "or there are not from 3 to 10 columns;",
            "rink(10, 11) = BAD; rink(10, 10) = BAD; rink(10, 9) = BAD; rink(10, 8) = BAD; rink(10, 7) = BAD; rink(10, 20) = BAD",
            "rink(10, 12) = 0; rink(19, 29) = BAD; rink(20, 29) = 1; rink(0, 10) = BAD; rink(0, 9) = 2");
        rows.hold(4, "REFUSED for 1 or 2.",
            "rink(10, 12) = 0; rink(12, 14) = REFUSED 2/0; rink(13, 15) = 1; rink(0, 2) = 2; rink(16, 18) = 3",
            "rink(20, 22) = REFUSED 1/4; rink(18, 20) = REFUSED 1/4; rink(0, 1) = BAD; rink(0, 30) = BAD; reasons '1/4'");
    }

    private static void wood(Rows rows) {
        rows.hold(5, "Adds a wood.", "wood(1, 4) = 0; woodOf(0, 0) = 1; woodOf(0, 1) = 4; account(4) = 1; account(14) = 1");
        rows.hold(5, "Returns its number;", "wood(1, 4) = 0; wood(0, 4) = 1; wood(0, 4) = 2; wood(1, 4) = 3");
        rows.hold(5, "NONE if there is no such club;",
            "wood(-1, 5) = NONE; wood(2, 5) = NONE; wood(min, 5) = NONE; wood(max, 5) = NONE; wood(-1, -1) = NONE",
            "wood(2, 10) = NONE; account(4) = 0; account(14) = 0; 16 * wood(0, 0); wood(2, 0) = NONE; wood(-1, 10) = NONE");
        rows.hold(5, "BAD if the bias is out of range;",
            "wood(0, -1) = BAD; wood(1, 10) = BAD; wood(0, min) = BAD; wood(1, max) = BAD; account(4) = 0; account(14) = 0",
            "wood(1, 0) = 0; wood(1, 9) = 1; 14 * wood(0, 0); wood(0, -1) = BAD; wood(0, 10) = BAD; reasons ''");
        rows.hold(5, "REFUSED for 1.",
            "15 * wood(0, 3); account(4) = 15; wood(1, 3) = 15; wood(1, 3) = REFUSED 1/16; wood(0, 0) = REFUSED 1/16");
    }

    private static void rinkAt(Rows rows) {
        rows.hold(21, "Returns a rink in the order of the columns.",
            FOUR_RINKS, "rinkAt(0) = 1; rinkAt(1) = 3; rinkAt(2) = 0; rinkAt(3) = 2; undo() = 3; rinkAt(1) = 0; rinkAt(2) = 2");
        rows.hold(21, "the place, from 0 for the one with the lowest columns",
            "rink(4, 6); rinkAt(0) = 0; rink(1, 3); rinkAt(0) = 1; rinkAt(1) = 0; rink(7, 9); rinkAt(2) = 2");
        rows.hold(21, "NONE if there is no such place.",
            "rinkAt(0) = NONE; rink(4, 6); rinkAt(0) = 0; rinkAt(1) = NONE; rinkAt(-1) = NONE; rinkAt(min) = NONE",
            "rinkAt(max) = NONE; rink(7, 9); rink(10, 12); rink(1, 3); rinkAt(3) = 2; rinkAt(4) = NONE");
    }

    public static void main(String[] args) {
        Check check = new Check();
        hold(check);
        check.end();
    }
}
