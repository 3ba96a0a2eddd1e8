/** Promises 9 to 14, 26 to 28 and 32: sweep, rain, sun, brew, tea, hour, wetIn, castsIn, dryIn, meanWet. */
public final class WeatherTest {
    private static final int NONE = BowlsGreen.NONE;
    private static final int BAD = BowlsGreen.BAD;
    private static final int REFUSED = BowlsGreen.REFUSED;
    private static final int NOTHING = BowlsGreen.NOTHING;
    private static final Check CHECK = new Check();

    /** A rink that is wet by 20, and stays so. */
    private static CountedGreen wetGreen() {
        CountedGreen x = new CountedGreen();
        x.rain(9);
        x.sun(0);
        x.rink(0, 9);
        x.hour(3);
        x.sun(9);
        return x;
    }

    private static void dueSweep(int casts, int cups) {
        CountedGreen x = new CountedGreen();
        x.rink(0, 9);
        x.rain(9);
        x.hour(casts);
        CHECK.due("account(10)", x.account(10), casts);
        CHECK.due("sweep(0) of " + casts, x.sweep(0), casts);
        CHECK.due("account(8)", x.account(8), 12 - cups);
        CHECK.due("account(9)", x.account(9), cups);
        CHECK.due("account(10)", x.account(10), 0);
        CHECK.due("account(11)", x.account(11), casts);
        CHECK.due("rinkOf(0, 3)", x.rinkOf(0, 3), 0);
    }

    private static void sweep() {
        CHECK.promise(9);
        int[] cups = {0, 1, 1, 1, 2, 2, 2, 3, 3, 3};
        for (int casts = 1; casts <= 9; casts++) {
            dueSweep(casts, cups[casts]);
        }
        CountedGreen x = wetGreen();
        CHECK.due("sweep(1)", x.sweep(1), NONE);
        CHECK.due("sweep(-1)", x.sweep(-1), NONE);
        x.rink(10, 13);
        CHECK.due("sweep(1)", x.sweep(1), REFUSED);
        CHECK.dueText("reasons", Check.reasons(x), "9/1");
        for (int i = 0; i < 3; i++) {
            x.hour(9);
            CHECK.due("sweep(0)", x.sweep(0), 9);
        }
        CHECK.due("account(8)", x.account(8), 3);
        CHECK.due("account(11)", x.account(11), 27);
        x.hour(4);
        x.tea(0);
        x.tea(0);
        CHECK.due("sweep(0)", x.sweep(0), REFUSED);
        CHECK.dueText("reasons", Check.reasons(x), "10/1");
        CHECK.due("rinkOf(0, 3)", x.rinkOf(0, 3), 4);
        CHECK.due("account(8)", x.account(8), 1);
        x.hour(9);
        CHECK.due("sweep(0)", x.sweep(0), REFUSED);
        CHECK.dueText("reasons", Check.reasons(x), "10/2");
        CHECK.due("sweep(1)", x.sweep(1), REFUSED);
        CHECK.dueText("reasons: 9 before 10", Check.reasons(x), "9/1");
        x.brew(2);
        CHECK.due("sweep(0): just enough cups", x.sweep(0), 9);
        CHECK.due("account(8)", x.account(8), 0);
        CHECK.due("account(9)", x.account(9), 14);
    }

    private static void rainAndSun() {
        CHECK.promise(10);
        CountedGreen x = new CountedGreen();
        CHECK.due("rain(-1)", x.rain(-1), BAD);
        CHECK.due("rain(10)", x.rain(10), BAD);
        CHECK.due("account(14)", x.account(14), 0);
        CHECK.due("rain(9)", x.rain(9), 1);
        CHECK.due("rain(0)", x.rain(0), 9);
        CHECK.due("rain(0) again is a change", x.rain(0), 0);
        CHECK.due("account(14)", x.account(14), 3);
        CHECK.due("account(1)", x.account(1), 0);
        CHECK.due("account(2)", x.account(2), 2);
        CHECK.promise(11);
        CHECK.due("sun(-1)", x.sun(-1), BAD);
        CHECK.due("sun(10)", x.sun(10), BAD);
        CHECK.due("sun(9)", x.sun(9), 2);
        CHECK.due("sun(0)", x.sun(0), 9);
        CHECK.due("account(2)", x.account(2), 0);
        CHECK.due("account(1)", x.account(1), 0);
        CHECK.due("account(14)", x.account(14), 5);
    }

    private static void brew() {
        CHECK.promise(12);
        CountedGreen x = new CountedGreen();
        CHECK.due("brew(0)", x.brew(0), BAD);
        CHECK.due("brew(-1)", x.brew(-1), BAD);
        CHECK.due("brew(21)", x.brew(21), BAD);
        CHECK.due("account(14)", x.account(14), 0);
        CHECK.due("brew(1)", x.brew(1), 13);
        CHECK.due("brew(20)", x.brew(20), 33);
        CHECK.due("brew(7)", x.brew(7), 40);
        CHECK.due("brew(1): a change by which nothing is different", x.brew(1), 40);
        CHECK.due("account(14)", x.account(14), 4);
        CHECK.due("account(8)", x.account(8), 40);
        x.undo();
        x.undo();
        CHECK.due("brew(20)", x.brew(20), 40);
        CHECK.due("account(9)", x.account(9), 0);
    }

    private static void tea() {
        CHECK.promise(13);
        CountedGreen x = new CountedGreen();
        CHECK.due("tea(2)", x.tea(2), NONE);
        CHECK.due("tea(-1)", x.tea(-1), NONE);
        for (int i = 1; i <= 10; i++) {
            CHECK.due("tea(1)", x.tea(1), i);
        }
        CHECK.due("clubOf(1, 2)", x.clubOf(1, 2), 0);
        CHECK.due("clubOf(1, 3)", x.clubOf(1, 3), 10);
        CHECK.due("account(8)", x.account(8), 2);
        CHECK.due("tea(1)", x.tea(1), REFUSED);
        CHECK.dueText("reasons", Check.reasons(x), "11/1");
        CHECK.due("tea(0)", x.tea(0), 1);
        CHECK.due("tea(0)", x.tea(0), 2);
        CHECK.due("tea(0)", x.tea(0), REFUSED);
        CHECK.dueText("reasons", Check.reasons(x), "10/1");
        CHECK.due("tea(1)", x.tea(1), REFUSED);
        CHECK.dueText("reasons: 10 before 11", Check.reasons(x), "10/1");
        CHECK.due("clubOf(0, 2)", x.clubOf(0, 2), 8);
        CHECK.due("account(9)", x.account(9), 12);
        x.brew(1);
        CHECK.due("tea(1)", x.tea(1), REFUSED);
        CHECK.dueText("reasons", Check.reasons(x), "11/1");
        CHECK.due("tea(0)", x.tea(0), 3);
    }

    private static void hour() {
        CHECK.promise(14);
        CountedGreen x = new CountedGreen();
        CHECK.due("hour(0)", x.hour(0), BAD);
        CHECK.due("hour(25)", x.hour(25), BAD);
        CHECK.due("hour(-1)", x.hour(-1), BAD);
        CHECK.due("account(0)", x.account(0), 0);
        CHECK.due("hour(24)", x.hour(24), 0);
        CHECK.due("account(0)", x.account(0), 24);
        CHECK.due("hour(1)", x.hour(1), 0);
        CHECK.due("account(0)", x.account(0), 25);
        x.rink(0, 4);
        x.rink(5, 9);
        x.rain(7);
        x.sun(3);
        CHECK.due("hour(1): wet by 4", x.hour(1), 0);
        CHECK.due("rinkOf(0, 2)", x.rinkOf(0, 2), 4);
        x.begin(1, 20);
        x.rain(1);
        x.sun(0);
        CHECK.due("hour(1): wet by 5, an end on one of both", x.hour(1), 1);
        CHECK.due("rinkOf(0, 3)", x.rinkOf(0, 3), 1);
        CHECK.due("rinkOf(1, 2)", x.rinkOf(1, 2), 5);
        CHECK.due("rinkOf(1, 3)", x.rinkOf(1, 3), 0);
        x.close(1);
        x.rain(2);
        x.sun(3);
        CHECK.due("hour(1): drier first, then casts", x.hour(1), 1);
        x.rain(9);
        CHECK.due("hour(1)", x.hour(1), 3);
        CHECK.due("rinkOf(0, 2)", x.rinkOf(0, 2), 10);
        CHECK.due("hour(8)", x.hour(8), 9 + 9);
        CHECK.due("rinkOf(0, 3)", x.rinkOf(0, 3), 9);
        CHECK.due("rinkOf(1, 3)", x.rinkOf(1, 3), 9);
        CHECK.due("rinkOf(0, 2)", x.rinkOf(0, 2), 20);
        x.rain(9);
        x.sun(9);
        CHECK.due("hour(1): at once, so as wet as before", x.hour(1), 18);
        CHECK.due("rinkOf(0, 2)", x.rinkOf(0, 2), 20);
        x.rain(0);
        x.hour(3);
        CHECK.due("rinkOf(0, 2)", x.rinkOf(0, 2), 0);
        x.rain(9);
        x.hour(1);
        CHECK.due("rinkOf(0, 2): at once", x.rinkOf(0, 2), 0);
    }

    private static void ahead() {
        CountedGreen x = new CountedGreen();
        CHECK.promise(26);
        CHECK.due("wetIn(0, 0)", x.wetIn(0, 0), NONE);
        x.rink(0, 4);
        CHECK.due("wetIn(0, -1)", x.wetIn(0, -1), BAD);
        CHECK.due("wetIn(0, 41)", x.wetIn(0, 41), BAD);
        CHECK.due("wetIn(1, 41)", x.wetIn(1, 41), NONE);
        CHECK.due("wetIn(-1, 0)", x.wetIn(-1, 0), NONE);
        x.rain(5);
        CHECK.due("wetIn(0, 0)", x.wetIn(0, 0), 0);
        CHECK.due("wetIn(0, 1)", x.wetIn(0, 1), 3);
        CHECK.due("wetIn(0, 6)", x.wetIn(0, 6), 18);
        CHECK.due("wetIn(0, 7)", x.wetIn(0, 7), 20);
        CHECK.due("wetIn(0, 40)", x.wetIn(0, 40), 20);
        CHECK.due("account(0)", x.account(0), 0);
        CHECK.due("rinkOf(0, 2)", x.rinkOf(0, 2), 0);
        CHECK.promise(27);
        CHECK.due("castsIn(1, 41)", x.castsIn(1, 41), NONE);
        CHECK.due("castsIn(-1, 0)", x.castsIn(-1, 0), NONE);
        CHECK.due("castsIn(0, -1)", x.castsIn(0, -1), BAD);
        CHECK.due("castsIn(0, 41)", x.castsIn(0, 41), BAD);
        CHECK.due("castsIn(0, 0)", x.castsIn(0, 0), 0);
        CHECK.due("castsIn(0, 1)", x.castsIn(0, 1), 0);
        CHECK.due("castsIn(0, 2)", x.castsIn(0, 2), 1);
        CHECK.due("castsIn(0, 10)", x.castsIn(0, 10), 9);
        CHECK.due("castsIn(0, 40)", x.castsIn(0, 40), 9);
        CHECK.due("rinkOf(0, 3)", x.rinkOf(0, 3), 0);
        x.hour(3);
        x.begin(0, 20);
        CHECK.due("castsIn(0, 40)", x.castsIn(0, 40), 9);
        x = new CountedGreen();
        x.rink(0, 4);
        x.begin(0, 20);
        x.rain(9);
        CHECK.due("castsIn(0, 40): an end is played", x.castsIn(0, 40), 0);
        CHECK.promise(26);
        x.hour(3);
        x.rain(0);
        x.sun(3);
        CHECK.due("wetIn(0, 5)", x.wetIn(0, 5), 5);
        CHECK.due("wetIn(0, 7)", x.wetIn(0, 7), 0);
    }

    private static void dryIn() {
        CHECK.promise(28);
        CountedGreen x = new CountedGreen();
        CHECK.due("dryIn(0)", x.dryIn(0), NONE);
        x.rink(0, 4);
        x.rain(9);
        CHECK.due("dryIn(-1)", x.dryIn(-1), NONE);
        CHECK.due("dryIn(0): it is now", x.dryIn(0), 0);
        x.hour(1);
        CHECK.due("dryIn(0): wet by 7", x.dryIn(0), 0);
        x.rain(3);
        x.hour(1);
        CHECK.due("dryIn(0): wet by 8, and more", x.dryIn(0), NOTHING);
        x.rain(2);
        CHECK.due("dryIn(0): wet by 8 for ever", x.dryIn(0), NOTHING);
        x.rain(1);
        CHECK.due("dryIn(0)", x.dryIn(0), 1);
        x.rain(9);
        x.hour(2);
        x.rain(0);
        CHECK.due("dryIn(0)", x.dryIn(0), 7);
        x.rain(1);
        CHECK.due("dryIn(0)", x.dryIn(0), 13);
        x.hour(12);
        CHECK.due("dryIn(0)", x.dryIn(0), 1);
        x.hour(1);
        CHECK.due("dryIn(0)", x.dryIn(0), 0);
    }

    private static void meanWet() {
        CHECK.promise(32);
        CountedGreen x = new CountedGreen();
        CHECK.dueDouble("meanWet()", x.meanWet(), 0.0f);
        x.rain(9);
        x.rink(0, 4);
        x.hour(1);
        CHECK.dueDouble("meanWet()", x.meanWet(), 7.0f);
        x.rink(5, 9);
        CHECK.dueDouble("meanWet()", x.meanWet(), 3.5f);
        x.rink(10, 19);
        CHECK.dueDouble("meanWet()", x.meanWet(), 7.0f / 3.0f);
        x.rain(2);
        x.hour(1);
        CHECK.dueDouble("meanWet()", x.meanWet(), 7.0f / 3.0f);
    }

    public static void main(String[] args) {
        sweep();
        rainAndSun();
        brew();
        tea();
        hour();
        ahead();
        dryIn();
        meanWet();
        CHECK.end();
    }
}
