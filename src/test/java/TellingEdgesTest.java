/** The edges of the promises 18, 19, 20, 29, 33 and 34: rinkOf, woodOf, clubOf, leader, winShare, account. */
public final class TellingEdgesTest {
    private static final String EIGHT_WOODS = "wood(0, 0); wood(1, 0); wood(0, 0); wood(1, 0); wood(0, 0); wood(1, 0); wood(0, 0); wood(1, 0)";
    private static final String EIGHT_ON_RINK = "rink(5, 10); " + EIGHT_WOODS;
    /** An end in which the club 0 begins and wins one shot. */
    private static final String ZERO_WINS_1 = "begin(0, 30) = 0; bowl(0, 0, 7, 13, true) = 0; close(0) = 1";
    /** An end in which the club 0 begins and wins two shots. */
    private static final String ZERO_WINS_2 = "begin(0, 30) = 0; bowl(0, 0, 7, 13, true) = 0; bowl(0, 1, 7, 1, true) = 576;"
        + " bowl(0, 2, 7, 12, true) = 4; close(0) = 2";
    /** An end in which the club 0 begins and the club 1 wins one shot. */
    private static final String ONE_WINS_1 = "begin(0, 30) = 0; bowl(0, 0, 7, 19, true) = NOTHING; bowl(0, 1, 7, 13, true) = 0; close(0) = 11";
    /** The same, where the club 1 begins. */
    private static final String ONE_WINS_1_AGAIN = "begin(0, 30) = 1; bowl(0, 1, 7, 13, true) = 0; close(0) = 11";

    static void hold(Check check) {
        Rows rows = new Rows(check);
        rinkOf(rows);
        rinkOfEnds(rows);
        woodOf(rows);
        woodOfPlaces(rows);
        clubOf(rows);
        leader(rows);
        winShare(rows);
        accounts(rows);
        accountsOfEnds(rows);
        accountsOfTeas(rows);
    }

    private static void rinkOf(Rows rows) {
        rows.hold(18, "0 its first column;", "rink(27, 29); rink(0, 9); rinkOf(0, 0) = 27; rinkOf(1, 0) = 0");
        rows.hold(18, "1 its last column;", "rink(27, 29); rink(0, 9); rinkOf(0, 1) = 29; rinkOf(1, 1) = 9");
        rows.hold(18, "2 by how much it is wet;",
            "rink(0, 2); rinkOf(0, 2) = 0; rain(9); sun(0); hour(1); rink(3, 5); hour(1); rinkOf(0, 2) = 18; rinkOf(1, 2) = 9; hour(1)",
            "rinkOf(0, 2) = 20; rinkOf(1, 2) = 18");
        rows.hold(18, "3 its casts;",
            "rink(0, 2); rinkOf(0, 3) = 0; rain(9); hour(8); rinkOf(0, 3) = 8; hour(2); rinkOf(0, 3) = 9; sweep(0) = 9; rinkOf(0, 3) = 0");
        rows.hold(18, "NONE if there is no such rink;",
            "rinkOf(0, 0) = NONE; rinkOf(0, 9) = NONE; rink(0, 2); rinkOf(-1, 0) = NONE; rinkOf(1, 0) = NONE; rinkOf(min, 0) = NONE",
            "rinkOf(max, 0) = NONE; rinkOf(1, -1) = NONE; rinkOf(-1, 9) = NONE; rink(3, 5); rink(6, 8); rink(9, 11); rinkOf(3, 0) = 9",
            "rinkOf(4, 0) = NONE; rinkOf(4, 9) = NONE");
        rows.hold(18, "BAD if there is no such what.",
            "rink(0, 2); rinkOf(0, -1) = BAD; rinkOf(0, 0) = 0; rinkOf(0, 8) = 0; rinkOf(0, 9) = BAD; rinkOf(0, min) = BAD",
            "rinkOf(0, max) = BAD");
    }

    private static void rinkOfEnds(Rows rows) {
        rows.hold(18, "4 the length of the jack, or 0 if no end is played;",
            "rink(0, 2); rink(3, 5); rinkOf(0, 4) = 0; begin(0, 20); rinkOf(0, 4) = 20; rinkOf(1, 4) = 0; close(0); rinkOf(0, 4) = 0",
            "begin(0, 40); rinkOf(0, 4) = 40");
        rows.hold(18, "5 the club whose turn it is or would be;",
            EIGHT_ON_RINK, "rinkOf(0, 5) = 0; begin(0, 30); rinkOf(0, 5) = 0; bowl(0, 0, 7, 1, true); rinkOf(0, 5) = 1; close(0) = 1",
            "rinkOf(0, 5) = 0; begin(0, 30); bowl(0, 0, 7, 1, true); bowl(0, 1, 7, 2, true); rinkOf(0, 5) = 0; close(0) = 11",
            "rinkOf(0, 5) = 1; rink(0, 2); rinkOf(1, 5) = 0; begin(0, 30); rinkOf(0, 5) = 1");
        rows.hold(18, "6 the woods that lie on it;",
            EIGHT_ON_RINK, "rink(0, 2); begin(0, 30); begin(1, 30); rinkOf(0, 6) = 0; bowl(0, 0, 7, 1, true); rinkOf(0, 6) = 1",
            "bowl(0, 1, 7, 19, true) = NOTHING; rinkOf(0, 6) = 1; bowl(1, 2, 1, 1, true); rinkOf(0, 6) = 1; rinkOf(1, 6) = 1; close(0)",
            "rinkOf(0, 6) = 0; rinkOf(1, 6) = 1");
        rows.hold(18, "6 the woods that lie on it;",
            EIGHT_ON_RINK, "begin(0, 30); bowl(0, 0, 7, 1, true); bowl(0, 1, 7, 1, true); bowl(0, 2, 7, 1, true); bowl(0, 3, 7, 1, true)",
            "bowl(0, 4, 7, 1, true); bowl(0, 5, 7, 1, true); bowl(0, 6, 7, 1, true) = 900; rinkOf(0, 6) = 7; rinkOf(0, 7) = 0",
            "bowl(0, 7, 7, 1, true) = NOTHING; rinkOf(0, 6) = 7; rinkOf(0, 7) = 1");
        rows.hold(18, "7 the dead ones;",
            EIGHT_ON_RINK, "rink(0, 2); begin(0, 30); begin(1, 30); rinkOf(0, 7) = 0; bowl(0, 0, 7, 1, true); rinkOf(0, 7) = 0",
            "bowl(0, 1, 7, 19, true) = NOTHING; rinkOf(0, 7) = 1; bowl(1, 2, 1, 19, true) = NOTHING; rinkOf(0, 7) = 1; rinkOf(1, 7) = 1",
            "close(0); rinkOf(0, 7) = 0; rinkOf(1, 7) = 1");
        rows.hold(18, "8 the ends that were closed on it so far",
            "rink(0, 2); rink(3, 5); rinkOf(0, 8) = 0; begin(0, 20); rinkOf(0, 8) = 0; close(0) = 0; rinkOf(0, 8) = 1; rinkOf(1, 8) = 0",
            "begin(0, 20); begin(1, 20); close(0) = 0; rinkOf(0, 8) = 2; close(1) = 0; rinkOf(1, 8) = 1; close(1) = REFUSED 5/1",
            "rinkOf(1, 8) = 1");
    }

    private static void woodOf(Rows rows) {
        rows.hold(19, "0 its club;", "wood(1, 0); wood(0, 0); woodOf(0, 0) = 1; woodOf(1, 0) = 0");
        rows.hold(19, "1 its bias;", "wood(1, 9); wood(0, 0); woodOf(0, 1) = 9; woodOf(1, 1) = 0");
        rows.hold(19, "7 how often it was bowled so far",
            "rink(0, 2); wood(0, 0); woodOf(0, 7) = 0; begin(0, 20); bowl(0, 0, 1, 8, true) = 0; woodOf(0, 7) = 1; close(0) = 1",
            "woodOf(0, 7) = 1; begin(0, 20); bowl(0, 0, 1, 20, true) = NOTHING; woodOf(0, 7) = 2; bowl(0, 0, 1, 8, true) = REFUSED 7/0",
            "woodOf(0, 7) = 2; undo() = 6; woodOf(0, 7) = 1");
        rows.hold(19, "NONE if there is no such wood;",
            "woodOf(0, 0) = NONE; woodOf(0, 8) = NONE; wood(0, 0); woodOf(-1, 0) = NONE; woodOf(1, 0) = NONE; woodOf(min, 0) = NONE",
            "woodOf(max, 0) = NONE; woodOf(1, -1) = NONE; woodOf(-1, 8) = NONE; 15 * wood(0, 7); woodOf(15, 1) = 7; woodOf(16, 1) = NONE");
        rows.hold(19, "BAD if there is no such what.",
            "wood(0, 0); woodOf(0, -1) = BAD; woodOf(0, 0) = 0; woodOf(0, 7) = 0; woodOf(0, 8) = BAD; woodOf(0, min) = BAD",
            "woodOf(0, max) = BAD");
    }

    private static void woodOfPlaces(Rows rows) {
        rows.hold(19, "2 for 0 if it is in the shed, 1 if it lies, 2 if it is dead;",
            EIGHT_ON_RINK, "woodOf(0, 2) = 0; begin(0, 30); bowl(0, 0, 7, 18, true); woodOf(0, 2) = 1; bowl(0, 1, 7, 19, true) = NOTHING",
            "woodOf(1, 2) = 2; woodOf(2, 2) = 0; close(0) = 1; woodOf(0, 2) = 0; woodOf(1, 2) = 0");
        rows.hold(19, "3 its rink, 4 its column, 5 its length, 6 its distance, each NOTHING if it has none;",
            "rink(20, 24); rink(0, 2)", EIGHT_WOODS, "woodOf(0, 3) = NOTHING; woodOf(0, 4) = NOTHING; woodOf(0, 5) = NOTHING",
            "woodOf(0, 6) = NOTHING; begin(1, 30); begin(0, 30); bowl(1, 0, 0, 12, true) = 5; woodOf(0, 3) = 1; woodOf(0, 4) = 0",
            "woodOf(0, 5) = 28; woodOf(0, 6) = 5; bowl(1, 1, 0, 19, true) = NOTHING; woodOf(1, 3) = 1; woodOf(1, 4) = NOTHING",
            "woodOf(1, 5) = NOTHING; woodOf(1, 6) = NOTHING; bowl(0, 2, 22, 13, true) = 0; woodOf(2, 3) = 0; woodOf(2, 6) = 0",
            "close(1) = 1; woodOf(0, 3) = NOTHING; woodOf(0, 4) = NOTHING; woodOf(0, 5) = NOTHING; woodOf(0, 6) = NOTHING",
            "woodOf(1, 3) = NOTHING; woodOf(2, 4) = 22; woodOf(2, 5) = 30");
        rows.hold(19, "each NOTHING if it has none;",
            "rink(0, 2); wood(0, 0); rain(9); sun(0); hour(9); rain(0); sun(9); hour(3); begin(0, 20); rain(9); sun(0); hour(3)",
            "bowl(0, 0, 0, 1, true) = 401; woodOf(0, 3) = 0; woodOf(0, 4) = 0; woodOf(0, 5) = 0; woodOf(0, 6) = 401");
    }

    private static void clubOf(Rows rows) {
        rows.hold(20, "0 its shots so far;",
            EIGHT_ON_RINK, "clubOf(0, 0) = 0; clubOf(1, 0) = 0", ZERO_WINS_2, "clubOf(0, 0) = 2; clubOf(1, 0) = 0", ZERO_WINS_1,
            "clubOf(0, 0) = 3", ONE_WINS_1, "clubOf(0, 0) = 3; clubOf(1, 0) = 1");
        rows.hold(20, "1 the ends that it won so far;",
            EIGHT_ON_RINK, "clubOf(0, 1) = 0; begin(0, 30); close(0) = 0; clubOf(0, 1) = 0; clubOf(1, 1) = 0", ZERO_WINS_2,
            "clubOf(0, 1) = 1; clubOf(1, 1) = 0", ONE_WINS_1, ONE_WINS_1_AGAIN, "clubOf(0, 1) = 1; clubOf(1, 1) = 2");
        rows.hold(20, "2 its coins;", "clubOf(0, 2) = 10; 10 * tea(0); clubOf(0, 2) = 0; clubOf(1, 2) = 10; tea(0) = REFUSED 11/0; clubOf(0, 2) = 0");
        rows.hold(20, "3 its teas so far;", "clubOf(0, 3) = 0; 10 * tea(0); clubOf(0, 3) = 10; clubOf(1, 3) = 0; tea(0) = REFUSED 11/0; clubOf(0, 3) = 10");
        rows.hold(20, "4 its woods;", "clubOf(0, 4) = 0; wood(1, 0); clubOf(0, 4) = 0; clubOf(1, 4) = 1; 15 * wood(1, 0); clubOf(1, 4) = 16");
        rows.hold(20, "5 those of them in the shed",
            EIGHT_ON_RINK, "clubOf(0, 5) = 4; clubOf(1, 5) = 4; begin(0, 30); bowl(0, 0, 7, 8, true); clubOf(0, 5) = 3",
            "bowl(0, 1, 7, 19, true) = NOTHING; clubOf(1, 5) = 3; clubOf(1, 4) = 4; close(0) = 1; clubOf(0, 5) = 4; clubOf(1, 5) = 4");
        rows.hold(20, "NONE if there is no such club;",
            "clubOf(-1, 0) = NONE; clubOf(2, 0) = NONE; clubOf(min, 0) = NONE; clubOf(max, 0) = NONE; clubOf(2, 6) = NONE; clubOf(-1, -1) = NONE",
            "clubOf(0, 0) = 0; clubOf(1, 0) = 0");
        rows.hold(20, "BAD if there is no such what.",
            "clubOf(0, -1) = BAD; clubOf(0, 6) = BAD; clubOf(1, -1) = BAD; clubOf(1, 6) = BAD; clubOf(0, min) = BAD; clubOf(0, max) = BAD",
            "clubOf(0, 5) = 0");
    }

    private static void leader(Rows rows) {
        rows.hold(29, "Returns the club with more shots so far;",
            EIGHT_ON_RINK, "leader() = NOTHING", ONE_WINS_1, "leader() = 1", ONE_WINS_1_AGAIN, "leader() = 1; begin(0, 30) = 1",
            "bowl(0, 1, 7, 1, true); bowl(0, 0, 7, 13, true); bowl(0, 3, 7, 2, true); bowl(0, 2, 7, 12, true); bowl(0, 5, 7, 3, true)",
            "bowl(0, 4, 7, 14, true); close(0) = 3; clubOf(0, 1) = 1; clubOf(1, 1) = 2; leader() = 0");
        rows.hold(29, "of both with as many the one that won more ends.",
            EIGHT_ON_RINK, ZERO_WINS_2, ONE_WINS_1, "leader() = 0", ONE_WINS_1_AGAIN, "clubOf(0, 0) = 2; clubOf(1, 0) = 2; leader() = 1");
        rows.hold(29, "of both with as many the one that won more ends.",
            EIGHT_ON_RINK, ZERO_WINS_1, ZERO_WINS_1, "begin(0, 30) = 0; bowl(0, 0, 7, 1, true); bowl(0, 1, 7, 13, true)",
            "bowl(0, 2, 7, 2, true); bowl(0, 3, 7, 12, true); close(0) = 12; leader() = 0");
        rows.hold(29, "Returns the club with more shots so far;",
            EIGHT_ON_RINK, ZERO_WINS_2, "begin(0, 30) = 0; bowl(0, 0, 7, 1, true); bowl(0, 1, 7, 13, true); bowl(0, 2, 7, 2, true)",
            "bowl(0, 3, 7, 12, true); bowl(0, 4, 7, 3, true); bowl(0, 5, 7, 14, true); close(0) = 13; leader() = 1");
        rows.hold(29, "of both with as many the one that won more ends.",
            EIGHT_ON_RINK, ZERO_WINS_2, ZERO_WINS_2, "begin(0, 30) = 0; bowl(0, 0, 7, 1, true); bowl(0, 1, 7, 13, true)",
            "bowl(0, 2, 7, 2, true); bowl(0, 3, 7, 12, true); close(0) = 12", ONE_WINS_1_AGAIN, "leader() = 0", ONE_WINS_1_AGAIN,
            "clubOf(0, 0) = 4; clubOf(1, 0) = 4; leader() = 1");
        rows.hold(29, "NOTHING if both have won as many ends, too.",
            EIGHT_ON_RINK, "leader() = NOTHING; begin(0, 30); close(0) = 0; leader() = NOTHING", ZERO_WINS_1, "leader() = 0", ONE_WINS_1,
            "leader() = NOTHING; undo() = 7; leader() = 0");
    }

    private static void winShare(Rows rows) {
        rows.hold(33, "Returns the share of ends that were won in all that were closed so far, both numbers converted to double.",
            EIGHT_ON_RINK, "rink(0, 2)", ZERO_WINS_1, "winShare() = 1.0; begin(1, 20); winShare() = 1.0; close(1) = 0; winShare() = 0.5",
            ONE_WINS_1, "winShare() = 0.6666666666666666");
        rows.hold(33, "Returns the share of ends that were won in all that were closed so far",
            EIGHT_ON_RINK, ZERO_WINS_2, "winShare() = 1.0; begin(0, 30); close(0) = 0; winShare() = 0.5; begin(0, 30) = 0",
            "bowl(0, 0, 7, 1, true); bowl(0, 1, 7, 13, true); bowl(0, 2, 7, 2, true); bowl(0, 3, 7, 12, true); close(0) = 12",
            "winShare() = 0.6666666666666666");
        rows.hold(33, "Returns the share;",
            "rink(0, 2); begin(0, 20); close(0) = 0; winShare() = 0.0; wood(0, 0); begin(0, 20); bowl(0, 0, 1, 8, true); close(0) = 1",
            "winShare() = 0.5; begin(0, 20); close(0) = 0; winShare() = 0.3333333333333333");
        rows.hold(33, "0.0 if none was closed.",
            "winShare() = 0.0; rink(0, 2); begin(0, 20); winShare() = 0.0; close(0) = 0; winShare() = 0.0; undo() = 2; winShare() = 0.0");
    }

    private static void accounts(Rows rows) {
        rows.hold(34, "0 the hour;", "account(0) = 0; hour(24); account(0) = 24; hour(1); account(0) = 25; undo() = 1; account(0) = 24");
        rows.hold(34, "1 the rain;", "account(1) = 1; rain(9); account(1) = 9; rain(0); account(1) = 0; rain(10) = BAD; account(1) = 0");
        rows.hold(34, "2 the sun;", "account(2) = 2; sun(9); account(2) = 9; sun(0); account(2) = 0; sun(10) = BAD; account(2) = 0");
        rows.hold(34, "3 the rinks;",
            "account(3) = 0; rink(0, 2); account(3) = 1; rink(0, 1) = BAD; rink(2, 4) = REFUSED 2/0; account(3) = 1; rink(3, 5)",
            "rink(6, 8); rink(9, 11); account(3) = 4; rink(12, 14) = REFUSED 1/4; account(3) = 4");
        rows.hold(34, "4 the woods;", "account(4) = 0; wood(0, 0); account(4) = 1; 15 * wood(1, 0); account(4) = 16; wood(1, 0) = REFUSED 1/16; account(4) = 16");
        rows.hold(34, "10 the casts of all rinks;",
            "account(10) = 0; rink(0, 2); rink(3, 5); rink(6, 8); rink(9, 11); account(10) = 0; rain(9); hour(8) = 32; account(10) = 32",
            "hour(1) = 36; hour(1) = 36; account(10) = 36; sweep(2) = 9; account(10) = 27");
        rows.hold(34, "13 the characters of the input;",
            "account(13) = 0; append(32) = 1; account(13) = 1; script() = BAD 0; account(13) = 0; append(31) = BAD; account(13) = 0");
        rows.hold(34, "14 the changes that can be undone",
            "account(14) = 0; rain(1) = 1; account(14) = 1; 6 * rain(2); account(14) = 7; rain(3); account(14) = 8; rain(4); account(14) = 8",
            "undo() = 7; account(14) = 7; rain(10) = BAD; account(14) = 7; save() = 0; account(14) = 7; restore() = 0; account(14) = 0");
        rows.hold(34, "BAD if there is no such what.", "account(-1) = BAD; account(15) = BAD; account(min) = BAD; account(max) = BAD; account(14) = 0");
    }

    private static void accountsOfEnds(Rows rows) {
        rows.hold(34, "5 the ends that are played;",
            "account(5) = 0; rink(0, 2); rink(3, 5); account(5) = 0; begin(0, 20); account(5) = 1; begin(1, 20); account(5) = 2; close(0)",
            "account(5) = 1; close(1); account(5) = 0");
        rows.hold(34, "6 the ends that were closed so far;",
            "account(6) = 0; rink(0, 2); rink(3, 5); begin(0, 20); begin(1, 20); account(6) = 0; close(0); account(6) = 1; close(1)",
            "account(6) = 2; begin(0, 20); close(0); account(6) = 3; close(0) = REFUSED 5/0; account(6) = 3");
        rows.hold(34, "7 the woods that were bowled so far;",
            EIGHT_ON_RINK, "account(7) = 0; begin(0, 20); bowl(0, 0, 7, 8, true); account(7) = 1; bowl(0, 1, 7, 19, true) = NOTHING",
            "account(7) = 2; bowl(0, 0, 7, 8, true) = REFUSED 7/0; account(7) = 2; close(0) = 1; account(7) = 2; begin(0, 20)",
            "bowl(0, 0, 7, 8, true); account(7) = 3");
        rows.hold(34, "12 the woods in the shed;",
            "account(12) = 0", EIGHT_ON_RINK, "account(12) = 8; begin(0, 20); bowl(0, 0, 7, 8, true); account(12) = 7",
            "bowl(0, 1, 7, 19, true) = NOTHING; account(12) = 6; close(0); account(12) = 8; 8 * wood(0, 0); account(12) = 16");
    }

    private static void accountsOfTeas(Rows rows) {
        rows.hold(34, "8 the cups;",
            "account(8) = 12; brew(20); brew(8); account(8) = 40; brew(1); account(8) = 40; tea(0); account(8) = 39; undo() = 3; account(8) = 40");
        rows.hold(34, "9 the cups that were drunk so far, by keeper and clubs;",
            "rink(0, 2); account(9) = 0; rain(9); hour(4); sweep(0) = 4; account(9) = 2; tea(0); account(9) = 3; tea(1); account(9) = 4",
            "brew(20); account(9) = 4; sweep(0) = REFUSED 9/0; account(9) = 4");
        rows.hold(34, "11 the casts that were swept so far;",
            "rink(0, 2); rink(3, 5); account(11) = 0; rain(9); hour(9); sweep(0) = 9; account(11) = 9; sweep(1) = 9; account(11) = 18",
            "sweep(0) = REFUSED 9/0; account(11) = 18; hour(1); sweep(0) = 1; account(11) = 19");
    }

    public static void main(String[] args) {
        Check check = new Check();
        hold(check);
        check.end();
    }
}
