/** The edges of the terms Reasons, Codes and Details, of the constants, and of the promise 17: reason. */
public final class ReasonEdgesTest {
    private static final String EIGHT_WOODS = "wood(0, 0); wood(1, 0); wood(0, 0); wood(1, 0); wood(0, 0); wood(1, 0); wood(0, 0); wood(1, 0)";
    private static final String EIGHT_ON_RINK = "rink(5, 10); " + EIGHT_WOODS;

    static void hold(Check check) {
        Rows rows = new Rows(check);
        constants(check);
        fullAndOverlapping(rows);
        wetRinks(rows);
        ends(rows);
        woods(rows);
        castsCupsAndCoins(rows);
        orders(rows);
        codes(rows);
        kept(rows);
        reason(rows);
    }

    private static void constants(Check check) {
        check.holds(1, "`NONE = -1`: There is no such number.");
        check.due("NONE", BowlsGreen.NONE, -1);
        check.holds(1, "`BAD = -2`: A number is out of range, or a text has a fault.");
        check.due("BAD", BowlsGreen.BAD, -2);
        check.holds(1, "`REFUSED = -3`: It is refused for a reason.");
        check.due("REFUSED", BowlsGreen.REFUSED, -3);
        check.holds(1, "`NOTHING = -4`: There is nothing of this kind.");
        check.due("NOTHING", BowlsGreen.NOTHING, -4);
    }

    private static void fullAndOverlapping(Rows rows) {
        rows.hold(17, "1, there are as many as there can be: this number;",
            "rink(0, 2); rink(3, 5); rink(6, 8); rink(9, 11) = 3; rink(12, 14) = REFUSED 1/4; 15 * wood(0, 0); wood(0, 0) = 15",
            "wood(0, 0) = REFUSED 1/16; rink(12, 14) = REFUSED 1/4");
        rows.hold(17, "Something is refused for the first that applies of the reasons that its method names, in the order in which it names"
            + " them, with a detail:",
            "rink(0, 2); rink(3, 5); rink(6, 8); rink(8, 10) = REFUSED 2/2; rink(9, 11); rink(8, 10) = REFUSED 1/4",
            "begin(0, 20); sun(0); rain(8); hour(1); begin(0, 30) = REFUSED 4/20; begin(1, 30) = REFUSED 3/8 13/-1",
            "10 * tea(0); tea(0) = REFUSED 11/0; tea(1); tea(1); tea(0) = REFUSED 10/1; sweep(0) = REFUSED 9/0; sweep(1) = REFUSED 10/1");
        rows.hold(17, "2, a column is in another rink: the lowest such rink;",
            "rink(20, 22); rink(10, 12); rink(14, 16); rink(11, 14) = REFUSED 2/1; rink(12, 20) = REFUSED 2/0; rink(13, 20) = REFUSED 2/0",
            "rink(14, 19) = REFUSED 2/2; rink(16, 19) = REFUSED 2/2; rink(17, 20) = REFUSED 2/0; rink(22, 24) = REFUSED 2/0",
            "rink(8, 10) = REFUSED 2/1; rink(12, 14) = REFUSED 2/1; rink(17, 19) = 3");
    }

    private static void wetRinks(Rows rows) {
        rows.hold(17, "3, the rink is wet by 8 or more: by how much;",
            "rink(0, 2); rink(3, 5); sun(0); rain(7); hour(1); begin(0, 20) = 0; close(0) = 0; rain(1); hour(1)",
            "begin(0, 20) = REFUSED 3/8 13/-1; hour(1); begin(0, 20) = REFUSED 3/9 13/-1; rain(9); hour(1)",
            "begin(0, 20) = REFUSED 3/18 13/-1; hour(1); begin(1, 20) = REFUSED 3/20 13/-1");
        rows.hold(17, "Behind 3 stands 13, with in how many hours it would be wet by less than 8, or -1 if it would not be within 40 hours.",
            "rink(0, 2); sun(0); rain(8); hour(1); begin(0, 20) = REFUSED 3/8 13/-1; sun(8); begin(0, 20) = REFUSED 3/8 13/-1",
            "sun(9); begin(0, 20) = REFUSED 3/8 13/1; rain(0); begin(0, 20) = REFUSED 3/8 13/1; sun(0); rain(9); hour(3)",
            "begin(0, 20) = REFUSED 3/20 13/-1; rain(0); begin(0, 20) = REFUSED 3/20 13/-1; sun(1); begin(0, 20) = REFUSED 3/20 13/13",
            "sun(2); begin(0, 20) = REFUSED 3/20 13/7; sun(3); begin(0, 20) = REFUSED 3/20 13/5; sun(4); begin(0, 20) = REFUSED 3/20 13/4",
            "sun(6); begin(0, 20) = REFUSED 3/20 13/3; sun(9); begin(0, 20) = REFUSED 3/20 13/2; rain(8); begin(0, 20) = REFUSED 3/20 13/13");
    }

    private static void ends(Rows rows) {
        rows.hold(17, "4, an end is played: the length of its jack;",
            "rink(0, 2); rink(3, 5); begin(0, 20); begin(1, 40); begin(0, 30) = REFUSED 4/20; begin(1, 30) = REFUSED 4/40");
        rows.hold(17, "5, no end is played: the rink;",
            "rink(5, 10); rink(0, 2); wood(0, 0); close(0) = REFUSED 5/0; close(1) = REFUSED 5/1; bowl(0, 0, 5, 8, true) = REFUSED 5/0",
            "bowl(1, 0, 1, 8, true) = REFUSED 5/1; begin(1, 20); bowl(0, 0, 5, 8, true) = REFUSED 5/0; bowl(1, 0, 1, 8, true) = 0",
            "close(1) = 1; bowl(1, 0, 1, 8, true) = REFUSED 5/1");
    }

    private static void woods(Rows rows) {
        rows.hold(17, "6, it is the turn of the other club: this club;",
            EIGHT_ON_RINK, "begin(0, 30); bowl(0, 1, 7, 8, true) = REFUSED 6/0; bowl(0, 0, 7, 8, true); bowl(0, 2, 7, 8, true) = REFUSED 6/1");
        rows.hold(17, "The club that the reason 6 tells is the one whose turn it is.",
            EIGHT_ON_RINK, "begin(0, 30); bowl(0, 3, 7, 8, true) = REFUSED 6/0; rinkOf(0, 5) = 0; bowl(0, 0, 7, 8, true)",
            "bowl(0, 4, 7, 8, true) = REFUSED 6/1; rinkOf(0, 5) = 1; bowl(0, 3, 7, 8, true) = 121");
        rows.hold(17, "7, the wood is not in the shed: its rink;",
            EIGHT_ON_RINK, "rink(0, 2); begin(0, 30); begin(1, 30); bowl(1, 0, 1, 8, true); bowl(0, 2, 7, 8, true)",
            "bowl(0, 0, 7, 8, true) = REFUSED 7/1; bowl(1, 2, 1, 8, true) = REFUSED 7/0; bowl(0, 2, 7, 8, true) = REFUSED 7/0",
            "bowl(1, 1, 1, 20, true) = NOTHING; bowl(0, 1, 7, 8, true) = REFUSED 7/1; close(1) = 1; bowl(0, 1, 7, 8, true) = 121");
        rows.hold(17, "8, the club has bowled 4 woods in the end: 4;",
            EIGHT_ON_RINK, "wood(0, 0); rink(0, 2); begin(0, 30); bowl(0, 0, 7, 8, true); bowl(0, 1, 7, 8, true); bowl(0, 2, 7, 8, true)",
            "bowl(0, 3, 7, 8, true); bowl(0, 4, 7, 8, true); bowl(0, 5, 7, 8, true); undo() = 7; bowl(0, 7, 7, 8, true) = 225",
            "bowl(0, 6, 7, 8, true) = 256; bowl(0, 8, 7, 8, true) = REFUSED 8/4; begin(1, 20); bowl(1, 8, 1, 8, true) = 0");
    }

    private static void castsCupsAndCoins(Rows rows) {
        rows.hold(17, "9, there are no casts: the rink;",
            "rink(0, 2); rink(3, 5); sweep(0) = REFUSED 9/0; sweep(1) = REFUSED 9/1; rain(7); hour(1); sweep(1) = 1; sweep(1) = REFUSED 9/1",
            "sweep(0) = 1");
        rows.hold(17, "10, there are too few cups: how many are missing;",
            "rink(0, 2); rain(9); sun(0); hour(9) = 9; 10 * tea(0); tea(1); sweep(0) = REFUSED 10/2; tea(1); sweep(0) = REFUSED 10/3",
            "tea(1) = REFUSED 10/1; brew(2); sweep(0) = REFUSED 10/1; brew(1); sweep(0) = 9; tea(0) = REFUSED 10/1");
        rows.hold(17, "11, the club has no coins: the club;",
            "9 * tea(1); tea(1) = 10; tea(1) = REFUSED 11/1; brew(20); 9 * tea(0); tea(0) = 10; tea(0) = REFUSED 11/0; tea(1) = REFUSED 11/1");
    }

    private static void orders(Rows rows) {
        rows.hold(17, "12, an order of a script would return a code: its number, from 0.",
            "script 'c0' = REFUSED 12/0; script 'r1;c0' = REFUSED 12/1; script 'r1;c0;c1' = REFUSED 12/1",
            "script 'r1;r2;r3;r4;r5;r6;r7;r8;r9;r0;s1;s2;s3;s4;s5;s6;s7;s8;s9;t2' = REFUSED 12/19; account(2) = 2");
        rows.hold(17, "Behind 12 stands the reason of the order, with what is behind it, if it was refused.",
            "rink(0, 2); wood(0, 0); script 'r9;s0;h1;e0:20' = REFUSED 12/3 3/9 13/-1; script 'c0' = REFUSED 12/0 5/0",
            "script 'w0' = REFUSED 12/0 9/0; script 'e0:20;e0:30' = REFUSED 12/1 4/20; script 'b0,0@1*8+' = REFUSED 12/0 5/0",
            "script 'e0:20;b0,0@1*8+;b0,0@1*8+' = REFUSED 12/2 7/0; script 'r9;s0;h1;r0;s2;e0:20' = REFUSED 12/5 3/9 13/1",
            "script 't0;t0;t0;t0;t0;t0;t0;t0;t0;t0;t0' = REFUSED 12/10 11/0");
        rows.hold(17, "if it was refused.",
            "rink(0, 2); wood(0, 0); close(0) = REFUSED 5/0; script 'c1' = REFUSED 12/0; sweep(0) = REFUSED 9/0; script 'h0' = REFUSED 12/0",
            "close(0) = REFUSED 5/0; script 'e0:41' = REFUSED 12/0; script 'e0:20;b0,1@1*8+' = REFUSED 12/1; script 't2' = REFUSED 12/0",
            "script 'e0:20;b0,0@3*8+' = REFUSED 12/1; script 'e0:20;b1,0@1*8+' = REFUSED 12/1; script 'w4' = REFUSED 12/0");
    }

    private static void codes(Rows rows) {
        String sentence = "If several codes apply, the one that is named first is returned.";
        rows.hold(6, sentence,
            "rink(0, 2); begin(0, 20); begin(1, 41) = NONE; begin(0, 41) = BAD; sun(0); rain(9); hour(1); begin(0, 19) = BAD; close(0)",
            "begin(0, 19) = BAD; begin(0, 20) = REFUSED 3/9 13/-1; begin(1, 19) = NONE");
        rows.hold(7, sentence,
            "bowl(0, 0, 0, 0, true) = NONE; rink(0, 2); bowl(0, 0, 0, 0, true) = NONE; wood(0, 0); bowl(1, 0, 3, 0, true) = NONE",
            "bowl(0, 1, 3, 0, true) = NONE; bowl(0, 0, 3, 0, true) = BAD; bowl(0, 0, 0, 21, true) = BAD; bowl(0, 0, 0, 1, true) = REFUSED 5/0",
            "begin(0, 20); bowl(0, 0, 1, 20, true) = NOTHING; bowl(0, 0, 3, 20, true) = BAD; bowl(0, 0, 1, 20, true) = REFUSED 7/0");
        rows.hold(5, sentence, "wood(2, 10) = NONE; wood(-1, -1) = NONE; 16 * wood(0, 0); wood(2, 10) = NONE; wood(0, 10) = BAD; wood(2, 0) = NONE");
        rows.hold(4, sentence,
            "rink(0, 2); rink(0, 1) = BAD; rink(2, 30) = BAD; rink(3, 5); rink(6, 8); rink(9, 11); rink(0, 30) = BAD; rink(10, 10) = BAD");
        rows.hold(18, sentence,
            "rinkOf(0, 9) = NONE; woodOf(0, 8) = NONE; clubOf(2, 6) = NONE; wetIn(0, 41) = NONE; castsIn(0, -1) = NONE",
            "nearest(0, -1) = NONE; would(0, 0, -1, 0, true) = NONE; bestStrength(0, 0, -1, true) = NONE; rink(0, 2)",
            "would(0, 0, 3, 0, true) = NONE; bestStrength(0, 0, 3, true) = NONE; wood(0, 0); bestStrength(0, 0, 3, true) = BAD",
            "would(0, 0, 3, 20, true) = BAD; reason(-1, true) = BAD");
    }

    private static void kept(Rows rows) {
        rows.hold(17, "and that reasons and fault positions are kept.",
            "rink(0, 2); close(0) = REFUSED 5/0; close(1) = NONE; rain(10) = BAD; restore() = NOTHING; reasons '5/0'; script 'r' = BAD 1",
            "reasons '5/0'; fault() = 1; sweep(0) = REFUSED 9/0; fault() = 1; rain(5) = 1; reasons '9/0'; script 'x' = BAD 0; reasons '9/0'");
    }

    private static void reason(Rows rows) {
        rows.hold(17, "Returns the reason for which something was refused last, one that stands behind it, or a detail.",
            "rink(0, 2); close(0) = REFUSED 5/0; reason(0, false) = 5; reason(0, true) = 0; script 's0;r8;h1;e0:20' = REFUSED 12/3 3/8 13/-1",
            "reason(0, false) = 12; reason(0, true) = 3; reason(1, false) = 3; reason(1, true) = 8; reason(2, false) = 13",
            "reason(2, true) = NONE; sweep(0) = REFUSED 9/0; reason(0, false) = 9; reason(1, false) = NOTHING; reason(2, true) = NOTHING");
        rows.hold(17, "0 for the reason, 1 for the one behind it, and so on",
            "rink(0, 2); sun(0); rain(8); hour(1); begin(0, 20) = REFUSED 3/8 13/-1; reason(-1, false) = BAD; reason(0, false) = 3",
            "reason(1, false) = 13; reason(2, false) = NOTHING");
        rows.hold(17, "true for the detail, false for the reason", "rink(0, 2); rink(3, 5); close(1) = REFUSED 5/1; reason(0, false) = 5; reason(0, true) = 1");
        rows.hold(17, "Returns the number;", "16 * wood(0, 0); wood(0, 0) = REFUSED 1/16; reason(0, false) = 1; reason(0, true) = 16");
        rows.hold(17, "BAD if depth is less than 0;",
            "reason(-1, false) = BAD; reason(-1, true) = BAD; reason(min, false) = BAD; reason(min, true) = BAD; reason(0, false) = NOTHING",
            "rink(0, 2); close(0) = REFUSED 5/0; reason(-1, false) = BAD; reason(-1, true) = BAD; reason(0, true) = 0");
        rows.hold(17, "NOTHING if nothing was refused, or there is no such reason behind it.",
            "reason(0, false) = NOTHING; reason(0, true) = NOTHING; reason(1, false) = NOTHING; reason(max, true) = NOTHING; rain(10) = BAD",
            "close(0) = NONE; script 'x' = BAD 0; undo() = NOTHING; reason(0, false) = NOTHING; rink(0, 2); close(0) = REFUSED 5/0",
            "reason(0, false) = 5; reason(1, false) = NOTHING; reason(1, true) = NOTHING; reason(2, true) = NOTHING; reason(max, false) = NOTHING");
        rows.hold(17, "or there is no such reason behind it.",
            "rink(0, 2); script 's0;r8;h1;e0:20' = REFUSED 12/3 3/8 13/-1; reason(2, false) = 13; reason(3, false) = NOTHING",
            "reason(3, true) = NOTHING; script 'c0' = REFUSED 12/0 5/0; reason(1, true) = 0; reason(2, false) = NOTHING",
            "script 'c1' = REFUSED 12/0; reason(1, false) = NOTHING; reason(1, true) = NOTHING");
    }

    public static void main(String[] args) {
        Check check = new Check();
        hold(check);
        check.end();
    }
}
