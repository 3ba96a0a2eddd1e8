/** The edges of the hours, of sweeping and teas, and of the promises 9 to 14, 26 to 28 and 32. */
public final class WeatherEdgesTest {
    /** Two rinks that are wet by 20, the first one with 9 casts, the second one with none. */
    private static final String SOAKED = "rink(0, 2); rink(3, 5); begin(1, 20); rain(9); sun(0); hour(9) = 9; close(1) = 0";

    static void hold(Check check) {
        Rows rows = new Rows(check);
        hours(rows);
        wetness(rows);
        weather(rows);
        sweepingAndTeas(rows);
        sweep(rows);
        sweepRefused(rows);
        rainAndSun(rows);
        brew(rows);
        tea(rows);
        hour(rows);
        wetIn(rows);
        castsIn(rows);
        dryIn(rows);
        meanWet(rows);
    }

    private static void hours(Rows rows) {
        rows.hold(14, "An hour passes: the following happens in this order.",
            "rink(0, 2); rain(5); sun(0); hour(1) = 1; rain(0); sun(1); hour(1) = 1; rinkOf(0, 2) = 4; rinkOf(0, 3) = 1");
        rows.hold(14, "Then each rink that is wet by 5 or more, and on which no end is played, gets a cast more, up to 9.",
            "rink(0, 2); rink(3, 5); begin(1, 20); rain(4); sun(0); hour(1) = 0; rinkOf(0, 2) = 4; rain(1); hour(1) = 1",
            "rinkOf(0, 3) = 1; rinkOf(1, 3) = 0; rinkOf(1, 2) = 5; hour(7) = 8; hour(1) = 9; hour(1) = 9; close(1) = 0",
            "hour(1) = 10; rinkOf(0, 3) = 9; rinkOf(1, 3) = 1; begin(0, 20) = REFUSED 3/15 13/-1; hour(8) = 18; hour(1) = 18");
        rows.hold(14, "Last, the hour, counted from 0, becomes 1 more.",
            "account(0) = 0; hour(1) = 0; account(0) = 1; hour(2) = 0; account(0) = 3; hour(24) = 0; account(0) = 27; save() = 27");
    }

    private static void wetness(Rows rows) {
        rows.hold(14, "First, each rink becomes wetter by the rain, and drier by the sun, at once, but not below 0 or above 20.",
            "rink(0, 2); rain(9); sun(9); hour(1); rinkOf(0, 2) = 0; sun(8); hour(1); rinkOf(0, 2) = 1; sun(9); rain(8); hour(1)",
            "rinkOf(0, 2) = 0; hour(1); rinkOf(0, 2) = 0; rain(0); hour(1); rinkOf(0, 2) = 0; sun(0); rain(9); hour(2)",
            "rinkOf(0, 2) = 18; sun(8); hour(1); rinkOf(0, 2) = 19; hour(1); rinkOf(0, 2) = 20; hour(1); rinkOf(0, 2) = 20",
            "sun(9); hour(1); rinkOf(0, 2) = 20; rain(8); hour(1); rinkOf(0, 2) = 19; rain(0); hour(1); rinkOf(0, 2) = 10",
            "hour(1); rinkOf(0, 2) = 1; hour(1); rinkOf(0, 2) = 0");
        rows.hold(14, "each rink becomes wetter by the rain",
            "rink(0, 2); rink(3, 5); rink(6, 8); begin(2, 20); rain(3); hour(1); rink(9, 11); hour(2); rinkOf(0, 2) = 3",
            "rinkOf(1, 2) = 3; rinkOf(2, 2) = 3; rinkOf(3, 2) = 2");
    }

    private static void weather(Rows rows) {
        rows.hold(10, "The rain is from 0 to 9, 1 at first",
            "account(1) = 1; rain(10) = BAD; rain(-1) = BAD; account(1) = 1; rain(9) = 1; rain(0) = 9; account(1) = 0; rain(10) = BAD");
        rows.hold(11, "the sun from 0 to 9, 2 at first.",
            "account(2) = 2; sun(10) = BAD; sun(-1) = BAD; account(2) = 2; sun(9) = 2; sun(0) = 9; account(2) = 0; sun(-1) = BAD");
    }

    /** A sweeping of so many casts that takes so many cups, of which there are just as many, or one less. */
    private static void sweepOf(Rows rows, int casts, int cups) {
        String teas = cups > 1 ? "10 * tea(0); 2 * tea(1); brew(" + (cups - 1) + ")" : "10 * tea(0); 2 * tea(1)";
        rows.hold(9, "and a cup of tea for the keeper for each 3 of them that are begun.",
            "rink(0, 2); rain(5); sun(0); hour(" + casts + ") = " + casts, teas, "sweep(0) = REFUSED 10/1; brew(1) = " + cups,
            "sweep(0) = " + casts + "; account(8) = 0; account(9) = " + (12 + cups) + "; account(11) = " + casts);
    }

    private static void sweepingAndTeas(Rows rows) {
        for (int casts = 1; casts <= 9; casts++) {
            sweepOf(rows, casts, (casts + 2) / 3);
        }
        rows.hold(9, "To sweep a rink takes all of its casts",
            SOAKED, "hour(1) = 10; sweep(0) = 9; rinkOf(0, 3) = 0; rinkOf(1, 3) = 1; account(10) = 1; sweep(1) = 1; account(10) = 0",
            "rinkOf(1, 3) = 0; account(11) = 10; rinkOf(0, 2) = 20");
        rows.hold(12, "There are 12 cups at first, and at most 40.",
            "account(8) = 12; brew(20) = 32; brew(7) = 39; brew(1) = 40; brew(1) = 40; account(8) = 40; brew(20) = 40; tea(0) = 1",
            "account(8) = 39; brew(2) = 40");
        rows.hold(13, "A club has 10 coins at first;",
            "clubOf(0, 2) = 10; clubOf(1, 2) = 10; 9 * tea(1); clubOf(1, 2) = 1; tea(1) = 10; clubOf(1, 2) = 0; clubOf(0, 2) = 10",
            "tea(1) = REFUSED 11/1; tea(0) = 1; clubOf(0, 2) = 9");
        rows.hold(13, "a tea of a club takes a cup, and a coin of the club.",
            "tea(0) = 1; account(8) = 11; account(9) = 1; clubOf(0, 2) = 9; clubOf(0, 3) = 1; clubOf(1, 2) = 10; clubOf(1, 3) = 0");
        rows.hold(12, "To brew cups is free.",
            "10 * tea(0); 2 * tea(1); brew(20) = 20; clubOf(0, 2) = 0; clubOf(1, 2) = 8; account(9) = 12");
    }

    private static void sweep(Rows rows) {
        rows.hold(9, "Sweeps a rink.", SOAKED, "sweep(0) = 9; rinkOf(0, 3) = 0; account(8) = 9; account(9) = 3; account(11) = 9");
        rows.hold(9, "Returns the casts that are gone;",
            "rink(0, 2); rain(5); sun(0); hour(1) = 1; sweep(0) = 1; hour(8) = 8; sweep(0) = 8; hour(9) = 9; sweep(0) = 9; account(11) = 18");
        rows.hold(9, "NONE if there is no such rink;",
            "sweep(0) = NONE", SOAKED, "sweep(-1) = NONE; sweep(2) = NONE; sweep(min) = NONE; sweep(max) = NONE; sweep(0) = 9");
    }

    private static void sweepRefused(Rows rows) {
        rows.hold(9, "REFUSED for 9 or 10.",
            SOAKED, "sweep(1) = REFUSED 9/1; 10 * tea(0); tea(1); account(8) = 1; sweep(0) = REFUSED 10/2; tea(1)",
            "sweep(0) = REFUSED 10/3; sweep(1) = REFUSED 9/1; brew(2); sweep(0) = REFUSED 10/1; brew(1); sweep(0) = 9",
            "sweep(0) = REFUSED 9/0; account(8) = 0");
    }

    private static void rainAndSun(Rows rows) {
        rows.hold(10, "Sets the rain.", "rain(7) = 1; account(1) = 7; account(2) = 2");
        rows.hold(10, "Returns the rain before;", "rain(0) = 1; rain(9) = 0; rain(9) = 9; rain(1) = 9; rain(1) = 1; account(14) = 5");
        rows.hold(10, "BAD if it is out of range.",
            "rain(-1) = BAD; rain(10) = BAD; rain(min) = BAD; rain(max) = BAD; rain(0) = 1; rain(9) = 0; rain(10) = BAD",
            "rain(-1) = BAD; account(1) = 9; account(14) = 2");
        rows.hold(11, "Sets the sun.", "sun(7) = 2; account(2) = 7; account(1) = 1");
        rows.hold(11, "Returns the sun before;", "sun(0) = 2; sun(9) = 0; sun(9) = 9; sun(2) = 9; sun(2) = 2; account(14) = 5");
        rows.hold(11, "BAD if it is out of range.",
            "sun(-1) = BAD; sun(10) = BAD; sun(min) = BAD; sun(max) = BAD; sun(0) = 2; sun(9) = 0; sun(10) = BAD",
            "sun(-1) = BAD; account(2) = 9; account(14) = 2");
    }

    private static void brew(Rows rows) {
        rows.hold(12, "Brews cups of tea;", "brew(3) = 15; account(8) = 15; account(9) = 0");
        rows.hold(12, "what would be more than 40 is not brewed.",
            "brew(20) = 32; brew(9) = 40; undo() = 1; brew(8) = 40; undo() = 1; brew(7) = 39; brew(20) = 40; brew(20) = 40; account(8) = 40");
        rows.hold(12, "how many, from 1 to 20",
            "brew(0) = BAD; brew(1) = 13; brew(20) = 33; brew(21) = BAD; account(8) = 33; account(14) = 2");
        rows.hold(12, "Returns the cups then;", "brew(1) = 13; brew(2) = 15; tea(0); brew(1) = 15");
        rows.hold(12, "BAD if the number is out of range.",
            "brew(0) = BAD; brew(-1) = BAD; brew(21) = BAD; brew(min) = BAD; brew(max) = BAD; brew(20) = 32; brew(8) = 40",
            "brew(0) = BAD; brew(21) = BAD; account(8) = 40; account(14) = 2; reasons ''");
    }

    private static void tea(Rows rows) {
        rows.hold(13, "Gives a club a tea.", "tea(1) = 1; clubOf(1, 3) = 1; clubOf(0, 3) = 0; account(14) = 1");
        rows.hold(13, "Returns the teas that the club had so far;", "tea(1) = 1; tea(0) = 1; tea(1) = 2; tea(1) = 3; tea(0) = 2");
        rows.hold(13, "NONE if there is no such club;",
            "tea(-1) = NONE; tea(2) = NONE; tea(min) = NONE; tea(max) = NONE; account(8) = 12; 10 * tea(0); 2 * tea(1)",
            "tea(2) = NONE; tea(-1) = NONE; reasons ''");
        rows.hold(13, "REFUSED for 10 or 11.",
            "10 * tea(0); tea(0) = REFUSED 11/0; tea(1) = 1; tea(0) = REFUSED 11/0; tea(1) = 2; account(8) = 0",
            "tea(0) = REFUSED 10/1; tea(1) = REFUSED 10/1; brew(1) = 1; tea(0) = REFUSED 11/0; tea(1) = 3; clubOf(0, 3) = 10");
    }

    private static void hour(Rows rows) {
        rows.hold(14, "Lets hours pass.", "rink(0, 2); rain(4); hour(3) = 1; account(0) = 3; rinkOf(0, 2) = 6; rinkOf(0, 3) = 1");
        rows.hold(14, "how many, from 1 to 24",
            "hour(0) = BAD; hour(1) = 0; hour(24) = 0; hour(25) = BAD; account(0) = 25; account(14) = 2");
        rows.hold(14, "Returns the casts of all rinks then;",
            "hour(1) = 0; rink(0, 2); rink(3, 5); rink(6, 8); rink(9, 11); rain(5); sun(0); hour(1) = 4; sweep(2) = 1; hour(1) = 7",
            "hour(24) = 36; begin(0, 20) = REFUSED 3/20 13/-1; sweep(3) = 9; hour(1) = 28");
        rows.hold(14, "BAD if the number is out of range.",
            "rink(0, 2); rain(9); hour(0) = BAD; hour(-1) = BAD; hour(25) = BAD; hour(min) = BAD; hour(max) = BAD; account(0) = 0",
            "rinkOf(0, 2) = 0; hour(24) = 9; account(0) = 24");
    }

    private static void wetIn(Rows rows) {
        rows.hold(26, "Returns by how much a rink is wet behind some hours, if nothing but hours pass.",
            "rink(0, 2); rain(3); wetIn(0, 1) = 1; wetIn(0, 19) = 19; wetIn(0, 20) = 20; wetIn(0, 21) = 20; wetIn(0, 40) = 20",
            "rinkOf(0, 2) = 0; rink(3, 5); hour(7); rink(6, 8); rain(1); wetIn(0, 1) = 6; wetIn(0, 6) = 1; wetIn(0, 7) = 0",
            "wetIn(0, 8) = 0; wetIn(0, 40) = 0; wetIn(2, 0) = 0; wetIn(2, 40) = 0; begin(0, 20); wetIn(0, 1) = 6; account(0) = 7");
        rows.hold(26, "how many, from 0 to 40",
            "rink(0, 2); rain(9); wetIn(0, -1) = BAD; wetIn(0, 0) = 0; wetIn(0, 40) = 20; wetIn(0, 41) = BAD; account(0) = 0");
        rows.hold(26, "Returns the number;", SOAKED, "wetIn(0, 0) = 20; wetIn(1, 0) = 20; rain(0); sun(6); wetIn(1, 3) = 2; wetIn(1, 4) = 0");
        rows.hold(26, "NONE if there is no such rink;",
            "wetIn(0, 0) = NONE; rink(0, 2); wetIn(-1, 0) = NONE; wetIn(1, 0) = NONE; wetIn(min, 0) = NONE; wetIn(max, 0) = NONE",
            "wetIn(1, 41) = NONE; wetIn(-1, -1) = NONE; wetIn(0, 0) = 0");
        rows.hold(26, "BAD if the number is out of range.",
            "rink(0, 2); wetIn(0, -1) = BAD; wetIn(0, 41) = BAD; wetIn(0, min) = BAD; wetIn(0, max) = BAD");
    }

    private static void castsIn(Rows rows) {
        rows.hold(27, "Returns the casts of a rink behind some hours, if nothing but hours pass.",
            "rink(0, 2); rink(3, 5); rain(3); castsIn(0, 4) = 0; castsIn(0, 5) = 1; castsIn(0, 12) = 8; castsIn(0, 13) = 9",
            "castsIn(0, 14) = 9; castsIn(0, 40) = 9; begin(1, 20); castsIn(1, 40) = 0; castsIn(0, 5) = 1; account(10) = 0; hour(6) = 2",
            "sun(4); castsIn(0, 0) = 2; castsIn(0, 1) = 3; castsIn(0, 2) = 3; castsIn(0, 40) = 3; castsIn(1, 40) = 0");
        rows.hold(27, "how many, from 0 to 40",
            SOAKED, "sweep(0) = 9; castsIn(0, -1) = BAD; castsIn(0, 0) = 0; castsIn(0, 40) = 9; castsIn(0, 41) = BAD; account(10) = 0");
        rows.hold(27, "Returns the casts;", SOAKED, "castsIn(0, 0) = 9; castsIn(0, 1) = 9; castsIn(1, 0) = 0; castsIn(1, 9) = 9; castsIn(1, 10) = 9");
        rows.hold(27, "NONE if there is no such rink;",
            "castsIn(0, 0) = NONE; rink(0, 2); castsIn(-1, 0) = NONE; castsIn(1, 0) = NONE; castsIn(min, 0) = NONE",
            "castsIn(max, 0) = NONE; castsIn(1, 41) = NONE; castsIn(-1, -1) = NONE; castsIn(0, 0) = 0");
        rows.hold(27, "BAD if the number is out of range.",
            "rink(0, 2); castsIn(0, -1) = BAD; castsIn(0, 41) = BAD; castsIn(0, min) = BAD; castsIn(0, max) = BAD");
    }

    private static void dryIn(Rows rows) {
        rows.hold(28, "Returns in how many hours a rink is wet by less than 8, if nothing but hours pass.",
            SOAKED, "rain(1); sun(2); dryIn(0) = 13; sun(9); dryIn(0) = 2; rain(0); dryIn(0) = 2; sun(6); dryIn(0) = 3; sun(4)",
            "dryIn(0) = 4; rinkOf(0, 2) = 20; account(0) = 9; hour(3); rinkOf(0, 2) = 8; dryIn(0) = 1; sun(1); dryIn(0) = 1");
        rows.hold(28, "Returns the hours, 0 if it is now;",
            "rink(0, 2); sun(0); dryIn(0) = 0; rain(7); hour(1); rinkOf(0, 2) = 7; dryIn(0) = 0; rain(1); hour(1); rinkOf(0, 2) = 8",
            "dryIn(0) = NOTHING; rain(0); sun(1); dryIn(0) = 1; hour(1); dryIn(0) = 0; rain(9); dryIn(0) = 0");
        rows.hold(28, "NONE if there is no such rink;",
            "dryIn(0) = NONE; rink(0, 2); dryIn(-1) = NONE; dryIn(1) = NONE; dryIn(min) = NONE; dryIn(max) = NONE; dryIn(0) = 0");
        rows.hold(28, "NOTHING if it is not within 40 hours.",
            SOAKED, "dryIn(0) = NOTHING; rain(4); sun(4); dryIn(0) = NOTHING; sun(5); dryIn(0) = 13; rain(5); dryIn(1) = NOTHING",
            "rain(0); sun(0); dryIn(1) = NOTHING; sun(1); dryIn(1) = 13");
    }

    private static void meanWet(Rows rows) {
        rows.hold(32, "Returns by how much rinks are wet on the mean: the sum divided by their number, both converted to float.",
            "rink(0, 2); rain(9); meanWet() = 0.0; hour(1); meanWet() = 7.0; rink(3, 5); meanWet() = 3.5; rink(6, 8)",
            "meanWet() = 2.3333333; rink(9, 11); meanWet() = 1.75; sun(0); hour(24); meanWet() = 20.0");
        rows.hold(32, "Returns the mean;", "rink(0, 2); rink(3, 5); rink(6, 8); rain(3); hour(1); meanWet() = 1.0; undo(); meanWet() = 0.0");
        rows.hold(32, "0.0f if there are none.", "meanWet() = 0.0; rain(9); hour(1); meanWet() = 0.0; rink(0, 2); meanWet() = 0.0; hour(1)",
            "meanWet() = 7.0; clear() = 2; meanWet() = 0.0");
    }

    public static void main(String[] args) {
        Check check = new Check();
        hold(check);
        check.end();
    }
}
