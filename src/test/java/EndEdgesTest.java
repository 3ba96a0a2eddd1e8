/** The edges of the terms Ends, Bowling and Shots, and of the promises 6, 7, 8 and 22 to 25. */
public final class EndEdgesTest {
    /** The club of each is its number's last bit; they have no bias. */
    private static final String TWO_WOODS = "wood(0, 0); wood(1, 0)";
    private static final String EIGHT_WOODS = String.join("; ", TWO_WOODS, TWO_WOODS, TWO_WOODS, TWO_WOODS);
    /** A rink with the middle column 7. */
    private static final String EIGHT_ON_RINK = "rink(5, 10); " + EIGHT_WOODS;
    /** Makes all rinks wet by 20, with 9 casts where no end is played. */
    private static final String SOAKED = "rain(9); sun(0); hour(9)";
    /** Makes soaked rinks dry. */
    private static final String DRIED = "rain(0); sun(9); hour(3)";

    static void hold(Check check) {
        Rows rows = new Rows(check);
        ends(rows);
        turns(rows);
        bowledFrom(rows);
        lengths(rows);
        columns(rows);
        deadWoods(rows);
        countedShots(rows);
        closedEnds(rows);
        allWoodsOnAllRinks(rows);
        begin(rows);
        bowl(rows);
        bowlRefused(rows);
        close(rows);
        nearest(rows);
        shots(rows);
        would(rows);
        bestStrength(rows);
        bestStrengthEdges(rows);
    }

    private static void ends(Rows rows) {
        rows.hold(6, "On a rink an end is played, or none.",
            "rink(5, 10); rink(0, 2); account(5) = 0; begin(1, 30); rinkOf(1, 4) = 30; rinkOf(0, 4) = 0; account(5) = 1",
            "begin(1, 31) = REFUSED 4/30; begin(0, 25); account(5) = 2; close(1) = 0; rinkOf(1, 4) = 0; rinkOf(0, 4) = 25",
            "close(1) = REFUSED 5/1; account(5) = 1; close(0) = 0; account(5) = 0");
        rows.hold(6, "An end begins with a jack in the middle column at a length from 20 to 40, if the rink is wet by less than 8.",
            "rink(5, 10); begin(0, 19) = BAD; begin(0, 20) = 0; rinkOf(0, 4) = 20; close(0) = 0; begin(0, 41) = BAD",
            "begin(0, 40) = 0; rinkOf(0, 4) = 40; close(0) = 0; sun(0); rain(7); hour(1); rinkOf(0, 2) = 7; begin(0, 30) = 0",
            "close(0) = 0; rain(1); hour(1); rinkOf(0, 2) = 8; begin(0, 30) = REFUSED 3/8 13/-1; rinkOf(0, 4) = 0",
            "sun(2); hour(1); begin(0, 30) = 0");
    }

    private static void turns(Rows rows) {
        rows.hold(7, "The clubs bowl in turn;",
            EIGHT_ON_RINK, "begin(0, 30); rinkOf(0, 5) = 0; bowl(0, 1, 7, 13, true) = REFUSED 6/0; bowl(0, 0, 7, 13, true) = 0",
            "rinkOf(0, 5) = 1; bowl(0, 2, 7, 13, true) = REFUSED 6/1; bowl(0, 1, 7, 19, true) = NOTHING; rinkOf(0, 5) = 0",
            "bowl(0, 3, 7, 13, true) = REFUSED 6/0; bowl(0, 2, 7, 13, true) = 1; rinkOf(0, 5) = 1");
        rows.hold(7, "The clubs bowl in turn;",
            "rink(5, 10); wood(0, 0); wood(0, 0); begin(0, 30); bowl(0, 0, 7, 13, true) = 0; clubOf(1, 5) = 0",
            "bowl(0, 1, 7, 13, true) = REFUSED 6/1");
        rows.hold(7, "The clubs bowl in turn;",
            EIGHT_ON_RINK, "rink(11, 13); begin(0, 30); begin(1, 30); bowl(0, 0, 7, 13, true); rinkOf(0, 5) = 1; rinkOf(1, 5) = 0",
            "bowl(1, 2, 12, 13, true) = 0; rinkOf(0, 5) = 1; rinkOf(1, 5) = 1");
        String sentence = "the club that won the latest end on the rink, that is counted there, begins, the club 0 at first.";
        rows.hold(6, sentence,
            EIGHT_ON_RINK, "rink(11, 13); rinkOf(0, 5) = 0; begin(0, 30) = 0; bowl(0, 0, 7, 1, true); bowl(0, 1, 7, 13, true)",
            "rinkOf(0, 5) = 0; close(0) = 11; rinkOf(0, 5) = 1; rinkOf(1, 5) = 0; begin(1, 30) = 0; begin(0, 30) = 1",
            "bowl(0, 0, 7, 13, true) = REFUSED 6/1; bowl(0, 1, 7, 13, true) = 0; bowl(0, 0, 7, 1, true); close(0) = 11",
            "begin(0, 20) = 1; close(0) = 0; rinkOf(0, 5) = 1; begin(0, 30) = 1");
        rows.hold(6, sentence,
            EIGHT_ON_RINK, "begin(0, 30) = 0; bowl(0, 0, 7, 13, true); bowl(0, 1, 7, 19, true) = NOTHING; close(0) = 1",
            "rinkOf(0, 5) = 0; begin(0, 30) = 0; bowl(0, 0, 7, 1, true); rinkOf(0, 5) = 1; close(0) = 1; begin(0, 30) = 0",
            "bowl(0, 0, 6, 13, true); bowl(0, 1, 8, 13, true); bowl(0, 2, 5, 13, true); close(0) = 0; begin(0, 30) = 0");
        rows.hold(7, "In an end each club bowls at most 4 woods.",
            EIGHT_ON_RINK, TWO_WOODS, "begin(0, 30); bowl(0, 0, 7, 13, true); bowl(0, 1, 7, 13, true); bowl(0, 2, 7, 13, true)",
            "bowl(0, 3, 7, 13, true); bowl(0, 4, 7, 13, true); bowl(0, 5, 7, 13, true); bowl(0, 6, 7, 13, true) = 36",
            "bowl(0, 9, 7, 13, true) = 49; bowl(0, 8, 7, 13, true) = REFUSED 8/4; bowl(0, 7, 7, 13, true) = REFUSED 8/4",
            "account(7) = 8; close(0) = 1; begin(0, 30); bowl(0, 8, 7, 13, true) = 0");
        rows.hold(7, "In an end each club bowls at most 4 woods.",
            EIGHT_ON_RINK, TWO_WOODS, "begin(0, 30); bowl(0, 0, 7, 20, true) = NOTHING; bowl(0, 1, 7, 20, true) = NOTHING",
            "bowl(0, 2, 7, 20, true) = NOTHING; bowl(0, 3, 7, 20, true) = NOTHING; bowl(0, 4, 7, 20, true) = NOTHING",
            "bowl(0, 5, 7, 20, true) = NOTHING; bowl(0, 6, 7, 20, true) = NOTHING; bowl(0, 7, 7, 20, true) = NOTHING",
            "bowl(0, 8, 7, 13, true) = REFUSED 8/4; undo() = 7; bowl(0, 9, 7, 13, true) = 0; bowl(0, 8, 7, 1, true) = REFUSED 8/4");
    }

    private static void bowledFrom(Rows rows) {
        rows.hold(7, "A wood of the club whose turn it is, from the shed, is bowled from a column of the rink, with a strength from 1"
            + " to 20, to the right or to the left.",
            "rink(5, 10); wood(0, 4); wood(1, 4); begin(0, 20); bowl(0, 0, 4, 5, true) = BAD; bowl(0, 0, 11, 5, true) = BAD",
            "bowl(0, 0, 7, 0, true) = BAD; bowl(0, 0, 7, 21, true) = BAD; bowl(0, 1, 7, 5, true) = REFUSED 6/0",
            "bowl(0, 0, 5, 1, true) = 200; woodOf(0, 4) = 5; undo() = 4; bowl(0, 0, 10, 5, false) = 37; woodOf(0, 4) = 8",
            "bowl(0, 1, 5, 5, true) = 36; woodOf(1, 4) = 7; bowl(0, 0, 7, 5, true) = REFUSED 7/0; undo() = 5",
            "bowl(0, 1, 7, 20, true) = NOTHING; woodOf(1, 2) = 2");
        rows.hold(7, "true to the right, false to the left",
            "rink(5, 10); wood(0, 5); wood(1, 5); begin(0, 20); bowl(0, 0, 7, 4, true) = 68; woodOf(0, 4) = 9",
            "bowl(0, 1, 7, 4, false) = 68; woodOf(1, 4) = 5");
    }

    private static void lengths(Rows rows) {
        rows.hold(24, "It comes to the length of 4 and twice the strength, less half of what the rink is wet by, and less its casts,"
            + " but at least 0;",
            "rink(0, 2); wood(0, 0); would(0, 0, 0, 1, true) = 6; would(0, 0, 0, 2, true) = 8; would(0, 0, 0, 18, true) = 40",
            "sun(0); hour(1); would(0, 0, 0, 1, true) = 6; hour(1); would(0, 0, 0, 1, true) = 5; hour(1); rinkOf(0, 2) = 3",
            "would(0, 0, 0, 1, true) = 5; hour(1); would(0, 0, 0, 1, true) = 4; hour(1) = 1; would(0, 0, 0, 1, true) = 3",
            "hour(1) = 2; would(0, 0, 0, 1, true) = 1; hour(1) = 3; would(0, 0, 0, 1, true) = 0; hour(1) = 4; rinkOf(0, 2) = 8",
            "would(0, 0, 0, 1, true) = 0; would(0, 0, 0, 2, true) = 0; would(0, 0, 0, 3, true) = 2; would(0, 0, 0, 20, true) = 36");
        rows.hold(7, "but at least 0;",
            "rink(0, 2); wood(0, 0); wood(1, 0)", SOAKED, DRIED, "begin(0, 20); rain(9); sun(0); hour(3); rinkOf(0, 3) = 9",
            "bowl(0, 0, 1, 7, true) = 400; woodOf(0, 5) = 0; bowl(0, 1, 1, 8, true) = 361; woodOf(1, 5) = 1");
        rows.hold(24, "If another wood lies there, it lies at the greatest lesser length at which none lies in this column.",
            EIGHT_ON_RINK, "begin(0, 30); bowl(0, 0, 7, 13, true); bowl(0, 1, 7, 12, true); bowl(0, 2, 8, 13, true)",
            "bowl(0, 3, 6, 13, true); woodOf(1, 5) = 28; would(0, 4, 7, 13, true) = 729; would(0, 4, 7, 12, true) = 727",
            "bowl(0, 4, 7, 13, true) = 1; bowl(0, 5, 7, 13, true) = 9; woodOf(5, 5) = 27; would(0, 6, 7, 12, true) = 726",
            "would(0, 6, 7, 14, true) = 732; would(0, 6, 9, 13, true) = 930; would(0, 6, 7, 11, true) = 726");
        rows.hold(24, "If another wood lies there, it lies at the greatest lesser length at which none lies in this column.",
            EIGHT_ON_RINK, "rink(11, 13); begin(0, 30); bowl(0, 0, 7, 19, true) = NOTHING; bowl(0, 1, 7, 13, true) = 0; close(0) = 11",
            "would(0, 2, 7, 13, true) = 730; begin(1, 30); bowl(1, 0, 12, 13, true); would(0, 2, 7, 13, true) = 730",
            "would(1, 2, 12, 13, true) = 1229; would(1, 0, 12, 13, true) = 1230");
    }

    private static void columns(Rows rows) {
        rows.hold(24, "and to a column that is, by the bias times the strength divided by 10, greater than the one from which it was"
            + " bowled, to the right, or less, to the left.",
            "rink(10, 19); wood(0, 1); wood(0, 3); wood(0, 5); wood(0, 9); wood(0, 0); rain(8); sun(0); hour(1) = 1",
            "would(0, 0, 14, 9, true) = 1417; would(0, 0, 14, 10, true) = 1519; would(0, 0, 14, 19, true) = 1537",
            "would(0, 0, 14, 20, true) = 1639; would(0, 0, 14, 9, false) = 1417; would(0, 0, 14, 10, false) = 1319",
            "would(0, 0, 14, 20, false) = 1239; would(0, 1, 14, 3, true) = 1405; would(0, 1, 14, 4, false) = 1307",
            "would(0, 2, 14, 1, true) = 1401; would(0, 2, 14, 2, true) = 1503; would(0, 3, 10, 10, true) = 1919",
            "would(0, 3, 10, 11, true) = 1921; would(0, 3, 10, 12, true) = NOTHING; would(0, 4, 14, 20, true) = 1439");
    }

    private static void deadWoods(Rows rows) {
        rows.hold(24, "It is dead if its column is not in the rink",
            "rink(0, 4); rink(25, 29); rink(5, 9); wood(0, 5); would(0, 0, 1, 2, false) = 8; would(0, 0, 1, 4, false) = NOTHING",
            "would(0, 0, 0, 1, false) = 6; would(0, 0, 0, 2, false) = NOTHING; would(1, 0, 28, 2, true) = 2908",
            "would(1, 0, 29, 2, true) = NOTHING; would(2, 0, 8, 2, true) = 908; would(2, 0, 9, 2, true) = NOTHING",
            "would(2, 0, 6, 2, false) = 508; would(2, 0, 5, 2, false) = NOTHING; would(0, 0, 4, 8, false) = 20");
        rows.hold(7, "if its length is more than 40",
            "rink(0, 2); wood(0, 0); wood(1, 0); sun(0); rain(2); hour(1); begin(0, 40); would(0, 0, 1, 19, true) = NOTHING",
            "hour(1); rinkOf(0, 2) = 4; bowl(0, 0, 1, 19, true) = 0; woodOf(0, 5) = 40; bowl(0, 1, 0, 20, true) = NOTHING",
            "woodOf(1, 2) = 2; hour(2); undo() = 7; undo() = 6; bowl(0, 1, 0, 18, true) = 5");
        rows.hold(7, "or if there is no such lesser length.",
            "rink(0, 2)", EIGHT_WOODS, SOAKED, DRIED, "begin(0, 20); rain(9); sun(0); hour(3); bowl(0, 0, 1, 8, true) = 361",
            "bowl(0, 1, 1, 8, true) = 400; woodOf(1, 5) = 0; bowl(0, 2, 1, 8, true) = NOTHING; bowl(0, 3, 1, 1, true) = NOTHING",
            "woodOf(2, 2) = 2; woodOf(3, 2) = 2; rinkOf(0, 6) = 2; rinkOf(0, 7) = 2; bowl(0, 4, 2, 1, true) = 401");
        rows.hold(7, "A length of more than 40 makes a wood dead at once, whatever is free below.",
            EIGHT_ON_RINK, "begin(0, 40); would(0, 0, 7, 19, true) = NOTHING; bowl(0, 0, 7, 18, true) = 0",
            "would(0, 1, 7, 19, true) = NOTHING; bowl(0, 1, 7, 19, true) = NOTHING; woodOf(1, 2) = 2; bowl(0, 2, 7, 18, true) = 1");
        rows.hold(7, "A wood that is bowled and is dead has been bowled: this is a change",
            EIGHT_ON_RINK, "begin(0, 40); account(14) = 8; bowl(0, 0, 7, 19, true) = NOTHING; account(7) = 1; woodOf(0, 7) = 1",
            "rinkOf(0, 5) = 1; rinkOf(0, 7) = 1; account(12) = 7; account(14) = 8; undo() = 7; account(7) = 0; woodOf(0, 2) = 0");
    }

    private static void countedShots(Rows rows) {
        rows.hold(7, "The distance of a wood that lies on a rink is the sum of the squares of the differences of its column and of its"
            + " length to those of the jack.",
            "rink(1, 9)", EIGHT_WOODS, "begin(0, 30); bowl(0, 0, 5, 13, true) = 0; bowl(0, 1, 1, 13, true) = 16",
            "bowl(0, 2, 9, 13, true) = 16; bowl(0, 3, 5, 18, true) = 100; bowl(0, 4, 5, 1, true) = 576",
            "bowl(0, 5, 2, 1, true) = 585; bowl(0, 6, 8, 18, true) = 109; close(0) = 1; begin(0, 40); bowl(0, 0, 5, 1, true) = 1156");
        rows.hold(23, "If the least distances of both clubs are the same, or no wood lies there, nobody counts shots.",
            EIGHT_ON_RINK, "begin(0, 30); shots(0, false) = 0; shots(0, true) = 0; bowl(0, 0, 6, 13, true) = 1",
            "shots(0, false) = 1; shots(0, true) = 1; bowl(0, 1, 8, 13, true) = 1; shots(0, false) = 0; shots(0, true) = 0",
            "bowl(0, 2, 7, 12, true) = 4; bowl(0, 3, 5, 13, true) = 4; shots(0, false) = 0; shots(0, true) = 0; close(0) = 0",
            "clubOf(0, 0) = 0; clubOf(1, 0) = 0; clubOf(0, 1) = 0; clubOf(1, 1) = 0");
        rows.hold(23, "If the least distances of both clubs are the same",
            "rink(5, 10); wood(1, 0); wood(0, 0); wood(1, 0); wood(0, 0); begin(0, 30); bowl(0, 1, 8, 13, true) = 1; shots(0, true) = 1",
            "bowl(0, 0, 6, 13, true) = 1; shots(0, false) = 0; shots(0, true) = 0; bowl(0, 3, 7, 1, true); bowl(0, 2, 7, 14, true) = 4",
            "shots(0, false) = 0; shots(0, true) = 0; close(0) = 0");
        rows.hold(23, "or no wood lies there",
            EIGHT_ON_RINK, "rink(11, 13); begin(0, 30); begin(1, 30); bowl(1, 0, 12, 13, true); bowl(0, 2, 7, 19, true) = NOTHING",
            "bowl(0, 1, 7, 19, true) = NOTHING; shots(0, false) = 0; shots(0, true) = 0; close(0) = 0; close(1) = 1");
        rows.hold(23, "Otherwise the club with the least distance counts a shot for each of its woods with a distance less than the"
            + " least one of the other club",
            EIGHT_ON_RINK, "begin(0, 30); bowl(0, 0, 7, 13, true) = 0; bowl(0, 1, 8, 13, true) = 1; shots(0, false) = 1",
            "bowl(0, 2, 6, 13, true) = 1; shots(0, false) = 1; shots(0, true) = 1; bowl(0, 3, 7, 13, true) = 1",
            "shots(0, true) = 1; bowl(0, 4, 5, 13, true) = 4; shots(0, false) = 1; shots(0, true) = 1; close(0) = 1");
        rows.hold(23, "with a distance less than the least one of the other club",
            EIGHT_ON_RINK, "begin(0, 30); bowl(0, 0, 9, 13, true) = 4; bowl(0, 1, 7, 13, true) = 0; bowl(0, 2, 10, 13, true) = 9",
            "bowl(0, 3, 6, 13, true) = 1; shots(0, false) = 12; shots(0, true) = 12; bowl(0, 4, 10, 13, true) = 10",
            "bowl(0, 5, 5, 13, true) = 4; shots(0, false) = 12; shots(0, true) = 12; bowl(0, 6, 10, 1, true)",
            "bowl(0, 7, 8, 13, true) = 1; shots(0, false) = 13; shots(0, true) = 13; close(0) = 13; clubOf(1, 0) = 3");
        rows.hold(23, "or for all of its woods if the other club has none that lies.",
            EIGHT_ON_RINK, "begin(0, 30); bowl(0, 0, 7, 1, true); shots(0, false) = 1; shots(0, true) = 1",
            "bowl(0, 1, 7, 20, true) = NOTHING; bowl(0, 2, 5, 1, true); bowl(0, 3, 7, 20, true) = NOTHING; bowl(0, 4, 10, 1, true)",
            "bowl(0, 5, 7, 20, true) = NOTHING; shots(0, false) = 3; shots(0, true) = 3; bowl(0, 6, 7, 1, true)",
            "shots(0, false) = 4; shots(0, true) = 4; bowl(0, 7, 7, 20, true) = NOTHING; close(0) = 4");
        rows.hold(23, "or for all of its woods if the other club has none that lies.",
            EIGHT_ON_RINK, "rink(11, 13); begin(0, 30); begin(1, 30); bowl(1, 0, 12, 13, true) = 0; bowl(0, 2, 7, 20, true) = NOTHING",
            "bowl(0, 1, 7, 1, true); shots(0, false) = 11; shots(0, true) = 11; bowl(0, 4, 7, 20, true) = NOTHING",
            "bowl(0, 3, 7, 2, true); shots(0, false) = 12; shots(0, true) = 12; shots(1, false) = 1; shots(1, true) = 1");
    }

    private static void closedEnds(Rows rows) {
        rows.hold(8, "When an end is closed, these shots are added to those of the club, which wins the end if there are any;",
            EIGHT_ON_RINK, "begin(0, 30); close(0) = 0; clubOf(0, 1) = 0; clubOf(1, 1) = 0; rinkOf(0, 8) = 1; begin(0, 30)",
            "bowl(0, 0, 7, 13, true); close(0) = 1; clubOf(0, 0) = 1; clubOf(0, 1) = 1; begin(0, 30); bowl(0, 0, 7, 12, true)",
            "bowl(0, 1, 7, 1, true); bowl(0, 2, 8, 13, true); close(0) = 2; clubOf(0, 0) = 3; clubOf(0, 1) = 2; begin(0, 30)",
            "bowl(0, 0, 7, 1, true); bowl(0, 1, 7, 13, true); close(0) = 11; clubOf(1, 0) = 1; clubOf(1, 1) = 1",
            "clubOf(0, 0) = 3; clubOf(0, 1) = 2");
        rows.hold(8, "all woods of the rink, dead ones too, are in the shed then.",
            EIGHT_ON_RINK, "rink(11, 13); begin(0, 30); begin(1, 30); bowl(0, 0, 7, 13, true); bowl(0, 1, 7, 20, true) = NOTHING",
            "bowl(1, 2, 12, 13, true); bowl(1, 3, 12, 20, true) = NOTHING; account(12) = 4; close(0) = 1; account(12) = 6",
            "woodOf(0, 2) = 0; woodOf(1, 2) = 0; woodOf(2, 2) = 1; woodOf(3, 2) = 2; rinkOf(0, 6) = 0; rinkOf(0, 7) = 0",
            "rinkOf(1, 6) = 1; rinkOf(1, 7) = 1; woodOf(0, 7) = 1; bowl(1, 0, 12, 13, true) = 1; close(1) = 2; account(12) = 8");
    }

    /** Four woods on each of four rinks, in a column, so that none is left in the shed. */
    private static String fullGreen() {
        StringBuilder text = new StringBuilder("rink(0, 2); rink(3, 5); rink(6, 8); rink(9, 11); " + EIGHT_WOODS + "; " + EIGHT_WOODS);
        for (int rink = 0; rink < 4; rink++) {
            text.append("; begin(").append(rink).append(", 20)");
            for (int i = 0; i < 4; i++) {
                text.append("; bowl(").append(rink).append(", ").append(4 * rink + i).append(", ").append(3 * rink + 1);
                text.append(", 8, true) = ").append(i * i);
            }
        }
        return text.toString();
    }

    private static void allWoodsOnAllRinks(Rows rows) {
        rows.hold(7, "At most 16 woods are kept, numbered from 0",
            fullGreen(), "account(12) = 0; account(7) = 16; account(5) = 4; clubOf(0, 5) = 0; clubOf(1, 5) = 0; clubOf(0, 4) = 8",
            "shots(0, false) = 1; shots(0, true) = 1; shots(3, false) = 1; shots(3, true) = 1; nearest(3, 3) = 15; nearest(3, 4) = NOTHING",
            "nearest(0, 0) = 0; rinkOf(3, 6) = 4; rinkOf(0, 6) = 4; rinkOf(3, 7) = 0; would(3, 15, 10, 8, true) = 1017",
            "would(3, 0, 10, 8, true) = 1016; bestStrength(3, 0, 10, true) = 9; describe(3) = 33; line '9-11: dry j20 12/0 13/1 14/4 15/9'",
            "bowl(3, 15, 10, 8, true) = REFUSED 7/3; close(3) = 1; account(12) = 4; woodOf(15, 2) = 0; woodOf(11, 2) = 1",
            "begin(3, 20) = 0; bowl(3, 14, 10, 8, true) = 0; bowl(3, 15, 10, 8, true) = 1; close(0) = 1; account(12) = 6; clubOf(0, 0) = 2");
    }

    private static void begin(Rows rows) {
        rows.hold(6, "Begins an end.", "rink(5, 10); begin(0, 33) = 0; rinkOf(0, 4) = 33; account(5) = 1; account(14) = 2");
        rows.hold(6, "Returns the club whose turn it is;",
            "rink(5, 10)", TWO_WOODS, "begin(0, 30) = 0; bowl(0, 0, 7, 1, true); bowl(0, 1, 7, 2, true); close(0) = 11; begin(0, 30) = 1");
        rows.hold(6, "NONE if there is no such rink;",
            "begin(0, 30) = NONE; rink(5, 10); begin(-1, 30) = NONE; begin(1, 30) = NONE; begin(min, 30) = NONE",
            "begin(max, 30) = NONE; begin(1, 19) = NONE; begin(-1, 41) = NONE; begin(0, 30) = 0; begin(1, 30) = NONE");
        rows.hold(6, "BAD if the length is not from 20 to 40;",
            "rink(5, 10); begin(0, 19) = BAD; begin(0, 41) = BAD; begin(0, 0) = BAD; begin(0, -20) = BAD; begin(0, min) = BAD",
            "begin(0, max) = BAD; account(5) = 0; begin(0, 20) = 0; begin(0, 41) = BAD; begin(0, 19) = BAD; rinkOf(0, 4) = 20",
            "close(0); sun(0); rain(9); hour(1); begin(0, 19) = BAD; begin(0, 41) = BAD; reasons ''");
        rows.hold(6, "REFUSED for 4 or 3.",
            "rink(5, 10); begin(0, 20); begin(0, 20) = REFUSED 4/20; begin(0, 40) = REFUSED 4/20; sun(0); rain(8); hour(1)",
            "begin(0, 25) = REFUSED 4/20; close(0) = 0; begin(0, 25) = REFUSED 3/8 13/-1; rain(0); sun(1)",
            "begin(0, 25) = REFUSED 3/8 13/1; hour(1); begin(0, 25) = 0; begin(0, 26) = REFUSED 4/25");
    }

    private static void bowl(Rows rows) {
        rows.hold(7, "Bowls a wood.",
            "rink(5, 10); wood(0, 2); begin(0, 20); bowl(0, 0, 6, 9, true) = 4; woodOf(0, 2) = 1; woodOf(0, 3) = 0",
            "woodOf(0, 4) = 7; woodOf(0, 5) = 22; woodOf(0, 7) = 1; account(7) = 1");
        rows.hold(7, "the column from which it is bowled, one of the rink",
            "rink(5, 10); rink(11, 13); wood(0, 0); wood(1, 0); begin(1, 20); begin(0, 20); bowl(0, 0, 11, 8, true) = BAD",
            "bowl(1, 0, 10, 8, true) = BAD; bowl(0, 0, 10, 8, true) = 9; bowl(0, 1, 5, 8, true) = 4");
        rows.hold(7, "Returns the distance of the wood;",
            "rink(5, 10)", TWO_WOODS, "begin(0, 20); bowl(0, 0, 7, 8, true) = 0; woodOf(0, 6) = 0; bowl(0, 1, 10, 18, true) = 409",
            "woodOf(1, 6) = 409");
        rows.hold(7, "NOTHING if it is dead;",
            "rink(5, 10); wood(0, 5); wood(1, 0); begin(0, 20); bowl(0, 0, 9, 4, true) = NOTHING; woodOf(0, 2) = 2",
            "bowl(0, 1, 9, 19, true) = NOTHING; woodOf(1, 2) = 2; undo() = 5; undo() = 4; bowl(0, 0, 9, 3, true) = 109");
        rows.hold(7, "NONE if there is no such rink or wood;",
            "bowl(0, 0, 0, 1, true) = NONE; rink(5, 10); bowl(0, 0, 7, 8, true) = NONE; wood(0, 0); begin(0, 20)",
            "bowl(-1, 0, 7, 8, true) = NONE; bowl(1, 0, 7, 8, true) = NONE; bowl(0, -1, 7, 8, true) = NONE",
            "bowl(0, 1, 7, 8, true) = NONE; bowl(min, 0, 7, 8, true) = NONE; bowl(max, 0, 7, 8, true) = NONE",
            "bowl(0, min, 7, 8, true) = NONE; bowl(0, max, 7, 8, true) = NONE; bowl(1, 0, 4, 0, true) = NONE",
            "bowl(0, 1, 4, 21, true) = NONE; bowl(0, 0, 7, 8, true) = 0");
        rows.hold(7, "BAD if the column or the strength is out of range;",
            "rink(5, 10); wood(0, 0); wood(1, 0); bowl(0, 0, 4, 8, true) = BAD; bowl(0, 0, 7, 0, true) = BAD; begin(0, 20)",
            "bowl(0, 0, 4, 8, true) = BAD; bowl(0, 0, 11, 8, true) = BAD; bowl(0, 0, 7, 0, true) = BAD; bowl(0, 0, 7, 21, true) = BAD",
            "bowl(0, 0, -1, 8, true) = BAD; bowl(0, 0, 30, 8, true) = BAD; bowl(0, 0, min, 8, true) = BAD",
            "bowl(0, 0, max, 8, true) = BAD; bowl(0, 0, 7, min, true) = BAD; bowl(0, 0, 7, max, true) = BAD",
            "bowl(0, 0, 7, -1, true) = BAD; bowl(0, 1, 4, 8, true) = BAD; bowl(0, 1, 7, 21, true) = BAD; reasons ''; account(7) = 0",
            "bowl(0, 0, 5, 1, true) = 200; bowl(0, 1, 10, 20, true) = NOTHING; bowl(0, 0, 11, 8, true) = BAD");
    }

    private static void bowlRefused(Rows rows) {
        rows.hold(7, "REFUSED for 5, 7, 8 or 6.",
            EIGHT_ON_RINK, TWO_WOODS, "rink(11, 13); bowl(0, 1, 7, 8, true) = REFUSED 5/0; bowl(1, 0, 11, 8, true) = REFUSED 5/1",
            "begin(0, 30); bowl(0, 1, 7, 8, true) = REFUSED 6/0; bowl(0, 0, 7, 13, true); bowl(0, 0, 7, 8, true) = REFUSED 7/0",
            "bowl(1, 0, 11, 8, true) = REFUSED 5/1; bowl(0, 1, 7, 20, true) = NOTHING; bowl(0, 1, 7, 8, true) = REFUSED 7/0",
            "begin(1, 30); bowl(1, 1, 12, 8, true) = REFUSED 7/0; bowl(1, 2, 12, 13, true) = 0; bowl(0, 2, 7, 8, true) = REFUSED 7/1");
        rows.hold(7, "REFUSED for 5, 7, 8 or 6.",
            EIGHT_ON_RINK, TWO_WOODS, "begin(0, 30); bowl(0, 0, 7, 13, true); bowl(0, 1, 7, 13, true); bowl(0, 2, 7, 13, true)",
            "bowl(0, 3, 7, 13, true); bowl(0, 4, 7, 13, true); bowl(0, 5, 7, 13, true); bowl(0, 6, 7, 13, true)",
            "bowl(0, 8, 7, 13, true) = REFUSED 8/4; bowl(0, 6, 7, 13, true) = REFUSED 7/0; bowl(0, 5, 7, 13, true) = REFUSED 7/0",
            "bowl(0, 7, 7, 13, true); bowl(0, 9, 7, 13, true) = REFUSED 8/4; bowl(0, 7, 7, 13, true) = REFUSED 7/0");
    }

    private static void close(Rows rows) {
        rows.hold(8, "Closes the end of a rink.",
            "rink(5, 10); rink(0, 2); begin(0, 30); begin(1, 30); close(0) = 0; rinkOf(0, 4) = 0; rinkOf(1, 4) = 30; rinkOf(0, 8) = 1",
            "rinkOf(1, 8) = 0; account(5) = 1; account(6) = 1");
        rows.hold(8, "Returns the shots that are counted, and 10 more if they are those of the club 1;",
            EIGHT_ON_RINK, "begin(0, 30); bowl(0, 0, 7, 13, true); close(0) = 1; begin(0, 30); bowl(0, 0, 7, 1, true)",
            "bowl(0, 1, 7, 13, true); close(0) = 11; begin(0, 30); bowl(0, 1, 7, 13, true); bowl(0, 0, 7, 1, true)",
            "bowl(0, 3, 7, 13, true); close(0) = 12");
        rows.hold(8, "0 if nobody counts any;",
            "rink(5, 10)", TWO_WOODS, "begin(0, 30); close(0) = 0; begin(0, 30); bowl(0, 0, 7, 20, true) = NOTHING; close(0) = 0",
            "begin(0, 30); bowl(0, 0, 6, 13, true) = 1; bowl(0, 1, 8, 13, true) = 1; close(0) = 0; rinkOf(0, 8) = 3; account(6) = 3");
        rows.hold(8, "NONE if there is no such rink;",
            "close(0) = NONE; rink(5, 10); begin(0, 30); close(-1) = NONE; close(1) = NONE; close(min) = NONE; close(max) = NONE",
            "close(0) = 0");
        rows.hold(8, "REFUSED for 5.",
            "rink(5, 10); rink(0, 2); close(0) = REFUSED 5/0; close(1) = REFUSED 5/1; begin(1, 20); close(0) = REFUSED 5/0",
            "close(1) = 0; close(1) = REFUSED 5/1; rinkOf(1, 8) = 1; account(6) = 1");
    }

    private static void nearest(Rows rows) {
        rows.hold(22, "Returns a wood that lies on a rink, by its distance, the least first, of several the one with the lowest number.",
            EIGHT_ON_RINK, "rink(11, 13); begin(0, 30); begin(1, 30); bowl(0, 6, 8, 13, true); bowl(0, 5, 6, 13, true)",
            "bowl(0, 2, 7, 12, true); bowl(0, 1, 9, 13, true); bowl(0, 0, 7, 19, true) = NOTHING; bowl(0, 7, 7, 13, true) = 0",
            "bowl(1, 4, 12, 13, true) = 0; nearest(0, 0) = 7; nearest(0, 1) = 5; nearest(0, 2) = 6; nearest(0, 3) = 1",
            "nearest(0, 4) = 2; nearest(0, 5) = NOTHING; nearest(1, 0) = 4; nearest(1, 1) = NOTHING");
        rows.hold(22, "the place, from 0",
            "rink(5, 10)", TWO_WOODS, "begin(0, 30); bowl(0, 0, 7, 12, true); nearest(0, 0) = 0; nearest(0, 1) = NOTHING",
            "bowl(0, 1, 7, 13, true); nearest(0, 0) = 1; nearest(0, 1) = 0; nearest(0, 2) = NOTHING");
        rows.hold(22, "NONE if there is no such rink;",
            "nearest(0, 0) = NONE; rink(5, 10)", TWO_WOODS, "begin(0, 30); bowl(0, 0, 7, 12, true); nearest(-1, 0) = NONE",
            "nearest(1, 0) = NONE; nearest(min, 0) = NONE; nearest(max, 0) = NONE; nearest(1, -1) = NONE; nearest(-1, 1) = NONE");
        rows.hold(22, "NOTHING if there is no such place.",
            "rink(5, 10)", TWO_WOODS, "nearest(0, 0) = NOTHING; begin(0, 30); nearest(0, 0) = NOTHING; bowl(0, 0, 7, 19, true) = NOTHING",
            "nearest(0, 0) = NOTHING; bowl(0, 1, 7, 13, true); nearest(0, 0) = 1; nearest(0, 1) = NOTHING; nearest(0, -1) = NOTHING",
            "nearest(0, min) = NOTHING; nearest(0, max) = NOTHING; close(0) = 11; nearest(0, 0) = NOTHING");
        rows.hold(22, "NOTHING if there is no such place.",
            EIGHT_ON_RINK, "begin(0, 30); bowl(0, 0, 7, 13, true); bowl(0, 1, 7, 13, true); bowl(0, 2, 7, 13, true)",
            "bowl(0, 3, 7, 13, true); bowl(0, 4, 7, 13, true); bowl(0, 5, 7, 13, true); bowl(0, 6, 7, 13, true)",
            "bowl(0, 7, 7, 13, true); nearest(0, 7) = 7; nearest(0, 8) = NOTHING; nearest(0, 16) = NOTHING");
    }

    private static void shots(Rows rows) {
        rows.hold(23, "Returns the shots that would be counted if the end was closed now, as close would, or the same by a second way: by"
            + " taking the woods by their distances, until there is one that does not count.",
            EIGHT_ON_RINK, "begin(0, 30); bowl(0, 0, 7, 13, true) = 0; bowl(0, 1, 10, 13, true) = 9; bowl(0, 2, 8, 13, true) = 1",
            "bowl(0, 3, 10, 12, true) = 13; bowl(0, 4, 5, 13, true) = 4; bowl(0, 5, 10, 1, true); bowl(0, 6, 10, 14, true) = 13",
            "shots(0, true) = 3; shots(0, false) = 3; close(0) = 3");
        rows.hold(23, "Returns the shots, and 10 more if they are those of the club 1;",
            EIGHT_ON_RINK, "begin(0, 30); shots(0, false) = 0; shots(0, true) = 0; bowl(0, 0, 7, 1, true); shots(0, false) = 1",
            "shots(0, true) = 1; bowl(0, 1, 7, 2, true); shots(0, false) = 11; shots(0, true) = 11; clubOf(1, 0) = 0");
        rows.hold(23, "NONE if there is no such rink;",
            "shots(0, false) = NONE; rink(5, 10); begin(0, 30); shots(-1, false) = NONE; shots(1, false) = NONE; shots(min, true) = NONE",
            "shots(max, true) = NONE; shots(1, true) = NONE; shots(-1, true) = NONE; shots(0, true) = 0");
        rows.hold(23, "NOTHING if no end is played.",
            "rink(5, 10); rink(0, 2); begin(1, 30); shots(0, false) = NOTHING; shots(0, true) = NOTHING; begin(0, 30)",
            "shots(0, false) = 0; shots(0, true) = 0; close(0); shots(0, false) = NOTHING; shots(0, true) = NOTHING");
    }

    private static void would(Rows rows) {
        rows.hold(24, "Returns where a wood would lie if it was bowled now, whosever turn it is, and wherever it is;",
            EIGHT_ON_RINK, "rink(11, 13); would(0, 1, 7, 13, true) = 730; begin(0, 30); would(0, 1, 7, 13, true) = 730",
            "bowl(0, 0, 7, 13, true); would(0, 2, 7, 13, true) = 729; would(1, 0, 12, 13, true) = 1230; bowl(0, 1, 7, 20, true) = NOTHING",
            "would(0, 1, 7, 13, true) = 729; would(1, 1, 12, 13, true) = 1230; woodOf(0, 7) = 1; account(7) = 2");
        rows.hold(24, "if it lies on this rink, it is not looked at as another wood.",
            EIGHT_ON_RINK, "begin(0, 30); bowl(0, 0, 7, 13, true); bowl(0, 1, 7, 13, true) = 1; would(0, 0, 7, 13, true) = 730",
            "would(0, 1, 7, 13, true) = 729; would(0, 2, 7, 13, true) = 728; bowl(0, 2, 7, 12, true) = 4; would(0, 1, 7, 13, true) = 729",
            "would(0, 2, 7, 13, true) = 728; would(0, 3, 7, 13, true) = 727");
        rows.hold(24, "the column from which it would be bowled, one of the rink",
            "rink(5, 10); wood(0, 0); would(0, 0, 4, 8, true) = BAD; would(0, 0, 5, 8, true) = 520; would(0, 0, 10, 8, true) = 1020",
            "would(0, 0, 11, 8, true) = BAD");
        rows.hold(24, "Returns 100 times its column, and its length;",
            "rink(0, 9); rink(20, 29); wood(0, 0); would(0, 0, 0, 1, true) = 6; would(0, 0, 9, 18, true) = 940",
            "would(1, 0, 29, 18, true) = 2940; would(1, 0, 20, 3, true) = 2010");
        rows.hold(24, "NONE if there is no such rink or wood;",
            "would(0, 0, 0, 1, true) = NONE; rink(5, 10); would(0, 0, 7, 8, true) = NONE; wood(0, 0); would(1, 0, 7, 8, true) = NONE",
            "would(-1, 0, 7, 8, true) = NONE; would(0, -1, 7, 8, true) = NONE; would(0, 1, 7, 8, true) = NONE",
            "would(min, 0, 7, 8, true) = NONE; would(max, 0, 7, 8, true) = NONE; would(0, min, 7, 8, true) = NONE",
            "would(0, max, 7, 8, true) = NONE; would(1, 0, 4, 0, true) = NONE; would(0, 1, 11, 21, true) = NONE",
            "would(0, 0, 7, 8, true) = 720");
        rows.hold(24, "BAD if the column or the strength is out of range;",
            "rink(5, 10); wood(0, 9); would(0, 0, 4, 8, true) = BAD; would(0, 0, 11, 8, true) = BAD; would(0, 0, 7, 0, true) = BAD",
            "would(0, 0, 7, 21, true) = BAD; would(0, 0, min, 8, true) = BAD; would(0, 0, max, 8, true) = BAD",
            "would(0, 0, 7, min, true) = BAD; would(0, 0, 7, max, false) = BAD; would(0, 0, 7, -1, true) = BAD",
            "would(0, 0, -1, 20, true) = BAD; would(0, 0, 7, 1, true) = 706; would(0, 0, 7, 20, true) = NOTHING");
        rows.hold(24, "NOTHING if it would be dead.",
            "rink(5, 10); wood(0, 0); wood(0, 5); would(0, 0, 7, 18, true) = 740; would(0, 0, 7, 19, true) = NOTHING",
            "would(0, 1, 9, 3, true) = 1010; would(0, 1, 9, 4, true) = NOTHING; would(0, 1, 6, 3, false) = 510",
            "would(0, 1, 6, 4, false) = NOTHING");
    }

    private static void bestStrength(Rows rows) {
        rows.hold(25, "Returns the strength with which a wood would come nearest to the jack, as would tells, of several the least one.",
            EIGHT_ON_RINK, "begin(0, 31); bestStrength(0, 0, 7, true) = 13; bowl(0, 0, 7, 13, true) = 1; bestStrength(0, 0, 7, true) = 13",
            "bestStrength(0, 1, 7, true) = 14; bowl(0, 1, 7, 14, true) = 1; bestStrength(0, 2, 7, false) = 14",
            "bestStrength(0, 1, 7, true) = 14; bestStrength(0, 3, 10, true) = 13");
        rows.hold(25, "of several the least one.",
            "rink(5, 10); wood(0, 0); wood(0, 1); begin(0, 21); bestStrength(0, 0, 5, true) = 8; close(0); begin(0, 39)",
            "bestStrength(0, 0, 5, false) = 17; bestStrength(0, 1, 6, true) = 17");
        rows.hold(25, "the column from which it would be bowled, one of the rink",
            "rink(5, 10); wood(0, 0); begin(0, 20); bestStrength(0, 0, 4, true) = BAD; bestStrength(0, 0, 5, true) = 8",
            "bestStrength(0, 0, 10, false) = 8; bestStrength(0, 0, 11, false) = BAD");
        rows.hold(25, "Returns the strength;",
            "rink(0, 9); wood(0, 1); wood(0, 9); begin(0, 40); bestStrength(0, 0, 2, true) = 18; bestStrength(0, 0, 9, true) = 9",
            "bestStrength(0, 1, 9, true) = 1; bestStrength(0, 1, 0, false) = 1; bestStrength(0, 1, 0, true) = 11; wood(1, 0)",
            "rain(7); sun(0); hour(1); bestStrength(0, 2, 4, true) = 19; rain(1); hour(1); rinkOf(0, 2) = 8; bestStrength(0, 2, 4, true) = 20");
        rows.hold(25, "NONE if there is no such rink or wood;",
            "bestStrength(0, 0, 0, true) = NONE; rink(5, 10); bestStrength(0, 0, 7, true) = NONE; wood(0, 0); begin(0, 20)",
            "bestStrength(1, 0, 7, true) = NONE; bestStrength(-1, 0, 7, true) = NONE; bestStrength(0, -1, 7, true) = NONE",
            "bestStrength(0, 1, 7, true) = NONE; bestStrength(min, 0, 7, true) = NONE; bestStrength(max, 0, 7, true) = NONE",
            "bestStrength(0, min, 7, true) = NONE; bestStrength(0, max, 7, true) = NONE; bestStrength(1, 0, 4, true) = NONE",
            "bestStrength(0, 1, 11, true) = NONE; bestStrength(0, 0, 7, true) = 8");
        rows.hold(25, "BAD if the column is out of range;",
            "rink(5, 10); wood(0, 0); bestStrength(0, 0, 4, true) = BAD; begin(0, 20); bestStrength(0, 0, 4, true) = BAD",
            "bestStrength(0, 0, 11, true) = BAD; bestStrength(0, 0, min, true) = BAD; bestStrength(0, 0, max, true) = BAD",
            "bestStrength(0, 0, -1, false) = BAD; bestStrength(0, 0, 30, true) = BAD");
    }

    private static void bestStrengthEdges(Rows rows) {
        rows.hold(25, "NOTHING if no end is played",
            "rink(5, 10); rink(0, 2); wood(0, 0); begin(1, 20); bestStrength(0, 0, 7, true) = NOTHING; begin(0, 20)",
            "bestStrength(0, 0, 7, true) = 8; close(0); bestStrength(0, 0, 7, true) = NOTHING; bestStrength(1, 0, 1, true) = 8");
        rows.hold(25, "or it would be dead with each strength.",
            "rink(0, 2); wood(0, 0); wood(1, 9)", SOAKED, DRIED, "begin(0, 20); rain(9); sun(0); hour(3); rinkOf(0, 2) = 20",
            "bestStrength(0, 1, 0, false) = 1; bowl(0, 0, 0, 1, true) = 401; bestStrength(0, 1, 0, false) = NOTHING",
            "bestStrength(0, 1, 0, true) = 2; bestStrength(0, 0, 0, true) = 17");
    }

    public static void main(String[] args) {
        Check check = new Check();
        hold(check);
        check.end();
    }
}
