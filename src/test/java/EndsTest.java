/** Promises 6, 7, 8, 22, 23, 24 and 25: begin, bowl, close, nearest, shots, would, bestStrength. */
public final class EndsTest {
    private static final int NONE = BowlsGreen.NONE;
    private static final int BAD = BowlsGreen.BAD;
    private static final int REFUSED = BowlsGreen.REFUSED;
    private static final int NOTHING = BowlsGreen.NOTHING;
    private static final Check CHECK = new Check();

    /** A rink from 5 to 10, with its middle at 7, and as many woods without bias, of the clubs 0 and 1 in turn. */
    private static CountedGreen straightGreen(int woods) {
        CountedGreen x = new CountedGreen();
        x.rink(5, 10);
        for (int i = 0; i < woods; i++) {
            x.wood(i % 2, 0);
        }
        return x;
    }

    /** Lets it rain until the rinks are wet by so much. */
    private static void wet(CountedGreen x, int wet) {
        x.rain(0);
        x.sun(9);
        x.hour(3);
        x.sun(0);
        for (int left = wet; left > 0; left -= Math.min(9, left)) {
            x.rain(Math.min(9, left));
            x.hour(1);
        }
        x.rain(1);
        x.sun(1);
    }

    private static void begin() {
        CHECK.promise(6);
        CountedGreen x = new CountedGreen();
        CHECK.due("begin(0, 30)", x.begin(0, 30), NONE);
        x.rink(5, 10);
        CHECK.due("begin(-1, 30)", x.begin(-1, 30), NONE);
        CHECK.due("begin(1, 0)", x.begin(1, 0), NONE);
        CHECK.due("begin(0, 19)", x.begin(0, 19), BAD);
        CHECK.due("begin(0, 41)", x.begin(0, 41), BAD);
        CHECK.due("rinkOf(0, 4)", x.rinkOf(0, 4), 0);
        CHECK.due("account(14)", x.account(14), 1);
        CHECK.due("begin(0, 20)", x.begin(0, 20), 0);
        CHECK.due("rinkOf(0, 4)", x.rinkOf(0, 4), 20);
        CHECK.due("account(5)", x.account(5), 1);
        CHECK.due("begin(0, 40)", x.begin(0, 40), REFUSED);
        CHECK.dueText("reasons", Check.reasons(x), "4/20");
        CHECK.due("begin(0, 41)", x.begin(0, 41), BAD);
        wet(x, 8);
        CHECK.due("begin(0, 40)", x.begin(0, 40), REFUSED);
        CHECK.dueText("reasons: 4 before 3", Check.reasons(x), "4/20");
        x.close(0);
        CHECK.due("begin(0, 40)", x.begin(0, 40), REFUSED);
        CHECK.dueText("reasons: as much rain as sun", Check.reasons(x), "3/8 13/-1");
        x.rain(0);
        CHECK.due("begin(0, 40)", x.begin(0, 40), REFUSED);
        CHECK.dueText("reasons", Check.reasons(x), "3/8 13/1");
        wet(x, 20);
        x.sun(2);
        CHECK.due("begin(0, 40)", x.begin(0, 40), REFUSED);
        CHECK.dueText("reasons", Check.reasons(x), "3/20 13/13");
        x.rain(9);
        CHECK.dueText("reasons stay", Check.reasons(x), "3/20 13/13");
        wet(x, 7);
        CHECK.due("begin(0, 40)", x.begin(0, 40), 0);
        CHECK.due("rinkOf(0, 4)", x.rinkOf(0, 4), 40);
    }

    private static void whoBegins() {
        CHECK.promise(6);
        CountedGreen x = straightGreen(8);
        x.rink(11, 13);
        x.begin(0, 30);
        x.bowl(0, 0, 7, 1, true);
        CHECK.due("bowl(0, 1, 7, 13, true)", x.bowl(0, 1, 7, 13, true), 0);
        CHECK.due("rinkOf(0, 5)", x.rinkOf(0, 5), 0);
        CHECK.due("close(0)", x.close(0), 11);
        CHECK.due("rinkOf(0, 5)", x.rinkOf(0, 5), 1);
        CHECK.due("begin(1, 30)", x.begin(1, 30), 0);
        CHECK.due("begin(0, 30)", x.begin(0, 30), 1);
        x.bowl(0, 1, 7, 19, true);
        CHECK.due("rinkOf(0, 5)", x.rinkOf(0, 5), 0);
        CHECK.due("close(0): nobody counts", x.close(0), 0);
        CHECK.due("rinkOf(0, 5)", x.rinkOf(0, 5), 1);
        CHECK.due("begin(0, 30)", x.begin(0, 30), 1);
        x.bowl(0, 1, 7, 1, true);
        x.bowl(0, 0, 7, 2, true);
        CHECK.due("close(0)", x.close(0), 1);
        CHECK.due("begin(0, 30)", x.begin(0, 30), 0);
    }

    private static void bowl() {
        CHECK.promise(7);
        CountedGreen x = straightGreen(2);
        CHECK.due("bowl(1, 0, 7, 5, true)", x.bowl(1, 0, 7, 5, true), NONE);
        CHECK.due("bowl(-1, 0, 7, 5, true)", x.bowl(-1, 0, 7, 5, true), NONE);
        CHECK.due("bowl(0, 2, 7, 5, true)", x.bowl(0, 2, 7, 5, true), NONE);
        CHECK.due("bowl(0, -1, 0, 0, true)", x.bowl(0, -1, 0, 0, true), NONE);
        CHECK.due("bowl(0, 0, 4, 5, true)", x.bowl(0, 0, 4, 5, true), BAD);
        CHECK.due("bowl(0, 0, 11, 5, true)", x.bowl(0, 0, 11, 5, true), BAD);
        CHECK.due("bowl(0, 0, 7, 0, true)", x.bowl(0, 0, 7, 0, true), BAD);
        CHECK.due("bowl(0, 0, 7, 21, true)", x.bowl(0, 0, 7, 21, true), BAD);
        CHECK.due("bowl(0, 0, min, max, true)", x.bowl(0, 0, Integer.MIN_VALUE, Integer.MAX_VALUE, true), BAD);
        CHECK.dueText("reasons", Check.reasons(x), "");
        CHECK.due("bowl(0, 0, 5, 20, true)", x.bowl(0, 0, 5, 20, true), REFUSED);
        CHECK.dueText("reasons", Check.reasons(x), "5/0");
        CHECK.due("account(14)", x.account(14), 3);
        x.begin(0, 30);
        CHECK.due("bowl(0, 1, 7, 13, true)", x.bowl(0, 1, 7, 13, true), REFUSED);
        CHECK.dueText("reasons", Check.reasons(x), "6/0");
        CHECK.due("bowl(0, 0, 10, 1, true)", x.bowl(0, 0, 10, 1, true), 9 + 24 * 24);
        CHECK.due("account(14)", x.account(14), 5);
        CHECK.due("woodOf(0, 7)", x.woodOf(0, 7), 1);
        CHECK.due("bowl(0, 0, 7, 13, true)", x.bowl(0, 0, 7, 13, true), REFUSED);
        CHECK.dueText("reasons: 7 before 6", Check.reasons(x), "7/0");
        CHECK.due("bowl(0, 1, 5, 19, false)", x.bowl(0, 1, 5, 19, false), NOTHING);
        CHECK.due("account(14)", x.account(14), 6);
        CHECK.due("woodOf(1, 2)", x.woodOf(1, 2), 2);
        CHECK.due("woodOf(1, 7)", x.woodOf(1, 7), 1);
        CHECK.due("rinkOf(0, 5)", x.rinkOf(0, 5), 0);
        CHECK.due("bowl(0, 1, 7, 13, true)", x.bowl(0, 1, 7, 13, true), REFUSED);
        CHECK.dueText("reasons: a dead one is not in the shed", Check.reasons(x), "7/0");
    }

    private static void bowlReasons() {
        CHECK.promise(7);
        CountedGreen x = straightGreen(12);
        x.rink(11, 14);
        x.begin(0, 30);
        for (int i = 0; i < 8; i++) {
            CHECK.due("bowl(0, " + i + ", 7, 13, true)", x.bowl(0, i, 7, 13, true), i * i);
        }
        CHECK.due("rinkOf(0, 5)", x.rinkOf(0, 5), 0);
        CHECK.due("bowl(0, 8, 7, 13, true)", x.bowl(0, 8, 7, 13, true), REFUSED);
        CHECK.dueText("reasons", Check.reasons(x), "8/4");
        CHECK.due("bowl(0, 9, 7, 13, true)", x.bowl(0, 9, 7, 13, true), REFUSED);
        CHECK.dueText("reasons: 8 before 6", Check.reasons(x), "8/4");
        CHECK.due("bowl(0, 3, 7, 13, true)", x.bowl(0, 3, 7, 13, true), REFUSED);
        CHECK.dueText("reasons: 7 before 8", Check.reasons(x), "7/0");
        CHECK.due("bowl(1, 0, 11, 13, true)", x.bowl(1, 0, 11, 13, true), REFUSED);
        CHECK.dueText("reasons: 5 before 7", Check.reasons(x), "5/1");
        x.begin(1, 20);
        CHECK.due("bowl(1, 0, 11, 13, true)", x.bowl(1, 0, 11, 13, true), REFUSED);
        CHECK.dueText("reasons: the rink of the wood", Check.reasons(x), "7/0");
        CHECK.due("bowl(1, 9, 11, 8, true)", x.bowl(1, 9, 11, 8, true), REFUSED);
        CHECK.dueText("reasons", Check.reasons(x), "6/0");
        CHECK.due("bowl(1, 8, 11, 8, true)", x.bowl(1, 8, 11, 8, true), 1);
        CHECK.due("bowl(1, 10, 11, 8, true)", x.bowl(1, 10, 11, 8, true), REFUSED);
        CHECK.dueText("reasons", Check.reasons(x), "6/1");
        CHECK.due("close(0)", x.close(0), 1);
        CHECK.due("woodOf(8, 2): on another rink", x.woodOf(8, 2), 1);
        x.begin(0, 30);
        CHECK.due("bowl(0, 0, 7, 13, true): a new end", x.bowl(0, 0, 7, 13, true), 0);
    }

    private static void close() {
        CHECK.promise(8);
        CountedGreen x = straightGreen(6);
        CHECK.due("close(1)", x.close(1), NONE);
        CHECK.due("close(-1)", x.close(-1), NONE);
        CHECK.due("close(0)", x.close(0), REFUSED);
        CHECK.dueText("reasons", Check.reasons(x), "5/0");
        x.begin(0, 30);
        CHECK.due("close(0)", x.close(0), 0);
        CHECK.due("rinkOf(0, 8)", x.rinkOf(0, 8), 1);
        x.begin(0, 30);
        x.bowl(0, 0, 5, 13, true);
        x.bowl(0, 1, 7, 13, true);
        x.bowl(0, 2, 5, 20, true);
        x.bowl(0, 3, 8, 13, true);
        CHECK.due("close(0)", x.close(0), 12);
        CHECK.due("clubOf(1, 0)", x.clubOf(1, 0), 2);
        CHECK.due("clubOf(1, 1)", x.clubOf(1, 1), 1);
        CHECK.due("clubOf(0, 0)", x.clubOf(0, 0), 0);
        CHECK.due("clubOf(0, 1)", x.clubOf(0, 1), 0);
        CHECK.due("account(5)", x.account(5), 0);
        CHECK.due("account(6)", x.account(6), 2);
        CHECK.due("account(12)", x.account(12), 6);
        CHECK.due("woodOf(2, 2)", x.woodOf(2, 2), 0);
        CHECK.due("woodOf(2, 3)", x.woodOf(2, 3), NOTHING);
        CHECK.due("woodOf(0, 3)", x.woodOf(0, 3), NOTHING);
        CHECK.due("rinkOf(0, 4)", x.rinkOf(0, 4), 0);
        CHECK.due("rinkOf(0, 6)", x.rinkOf(0, 6), 0);
        CHECK.due("rinkOf(0, 7)", x.rinkOf(0, 7), 0);
        CHECK.due("begin(0, 24)", x.begin(0, 24), 1);
        x.bowl(0, 5, 7, 1, true);
        x.bowl(0, 0, 7, 10, true);
        x.bowl(0, 1, 7, 1, true);
        x.bowl(0, 2, 8, 10, true);
        x.bowl(0, 3, 7, 1, true);
        x.bowl(0, 4, 6, 10, true);
        CHECK.due("close(0)", x.close(0), 3);
        CHECK.due("clubOf(0, 0)", x.clubOf(0, 0), 3);
        CHECK.due("clubOf(0, 1)", x.clubOf(0, 1), 1);
        CHECK.due("clubOf(1, 0)", x.clubOf(1, 0), 2);
    }

    private static void nearest() {
        CHECK.promise(22);
        CountedGreen x = straightGreen(8);
        CHECK.due("nearest(1, 0)", x.nearest(1, 0), NONE);
        CHECK.due("nearest(-1, -1)", x.nearest(-1, -1), NONE);
        CHECK.due("nearest(0, 0)", x.nearest(0, 0), NOTHING);
        x.begin(0, 30);
        x.bowl(0, 4, 8, 13, true);
        x.bowl(0, 3, 6, 13, true);
        x.bowl(0, 2, 5, 13, true);
        x.bowl(0, 1, 7, 19, true);
        x.bowl(0, 0, 7, 13, true);
        x.bowl(0, 7, 7, 13, true);
        int[] order = {0, 3, 4, 7, 2};
        for (int place = 0; place < order.length; place++) {
            CHECK.due("nearest(0, " + place + ")", x.nearest(0, place), order[place]);
        }
        CHECK.due("nearest(0, 5)", x.nearest(0, 5), NOTHING);
        CHECK.due("nearest(0, -1)", x.nearest(0, -1), NOTHING);
        CHECK.due("nearest(0, max)", x.nearest(0, Integer.MAX_VALUE), NOTHING);
        x.close(0);
        CHECK.due("nearest(0, 0)", x.nearest(0, 0), NOTHING);
    }

    private static void dueShots(CountedGreen x, int want) {
        CHECK.due("shots(0, false)", x.shots(0, false), want);
        CHECK.due("shots(0, true)", x.shots(0, true), want);
    }

    private static void shots() {
        CHECK.promise(23);
        CountedGreen x = straightGreen(8);
        CHECK.due("shots(1, false)", x.shots(1, false), NONE);
        CHECK.due("shots(-1, true)", x.shots(-1, true), NONE);
        dueShots(x, NOTHING);
        x.begin(0, 30);
        dueShots(x, 0);
        x.bowl(0, 0, 8, 13, true);
        dueShots(x, 1);
        x.bowl(0, 1, 6, 13, true);
        dueShots(x, 0);
        x.bowl(0, 2, 7, 12, true);
        dueShots(x, 0);
        x.bowl(0, 3, 7, 13, true);
        dueShots(x, 11);
        x.bowl(0, 4, 5, 19, true);
        x.bowl(0, 5, 7, 13, true);
        dueShots(x, 11);
        CHECK.due("nearest(0, 1)", x.nearest(0, 1), 0);
        CHECK.due("close(0)", x.close(0), 11);
        dueShots(x, NOTHING);
        x.begin(0, 40);
        x.bowl(0, 1, 5, 18, true);
        x.bowl(0, 0, 7, 1, true);
        x.bowl(0, 3, 10, 18, true);
        x.bowl(0, 2, 7, 18, true);
        dueShots(x, 1);
        x.bowl(0, 5, 9, 18, true);
        x.bowl(0, 4, 8, 18, true);
        dueShots(x, 2);
        x.bowl(0, 7, 8, 19, true);
        x.bowl(0, 6, 6, 18, true);
        dueShots(x, 3);
    }

    private static void allShots() {
        CHECK.promise(23);
        CountedGreen x = straightGreen(8);
        x.begin(0, 30);
        for (int i = 0; i < 8; i += 2) {
            x.bowl(0, i, 7, 20, true);
            x.bowl(0, i + 1, 7, 13 - i, true);
        }
        dueShots(x, 14);
        CHECK.due("close(0): all woods of the club 1", x.close(0), 14);
        CHECK.due("clubOf(1, 0)", x.clubOf(1, 0), 4);
    }

    private static void would() {
        CHECK.promise(24);
        CountedGreen x = new CountedGreen();
        x.rink(5, 10);
        x.wood(0, 0);
        x.wood(1, 9);
        CHECK.due("would(1, 0, 7, 5, true)", x.would(1, 0, 7, 5, true), NONE);
        CHECK.due("would(0, 2, 7, 5, true)", x.would(0, 2, 7, 5, true), NONE);
        CHECK.due("would(-1, 0, 7, 5, true)", x.would(-1, 0, 7, 5, true), NONE);
        CHECK.due("would(0, -1, 0, 5, true)", x.would(0, -1, 0, 5, true), NONE);
        CHECK.due("would(0, 0, 4, 5, true)", x.would(0, 0, 4, 5, true), BAD);
        CHECK.due("would(0, 0, 11, 5, true)", x.would(0, 0, 11, 5, true), BAD);
        CHECK.due("would(0, 0, 7, 0, true)", x.would(0, 0, 7, 0, true), BAD);
        CHECK.due("would(0, 0, 7, 21, true)", x.would(0, 0, 7, 21, true), BAD);
        CHECK.due("would(0, 0, 5, 1, true)", x.would(0, 0, 5, 1, true), 506);
        CHECK.due("would(0, 0, 10, 18, true)", x.would(0, 0, 10, 18, true), 1040);
        CHECK.due("would(0, 0, 10, 19, true)", x.would(0, 0, 10, 19, true), NOTHING);
        CHECK.due("would(0, 1, 5, 1, false)", x.would(0, 1, 5, 1, false), 506);
        CHECK.due("would(0, 1, 5, 2, false)", x.would(0, 1, 5, 2, false), NOTHING);
        CHECK.due("would(0, 1, 5, 2, true)", x.would(0, 1, 5, 2, true), 608);
        CHECK.due("would(0, 1, 5, 6, true)", x.would(0, 1, 5, 6, true), 1016);
        CHECK.due("would(0, 1, 5, 7, true)", x.would(0, 1, 5, 7, true), NOTHING);
        CHECK.due("would(0, 1, 10, 6, false)", x.would(0, 1, 10, 6, false), 516);
        CHECK.due("would(0, 1, 10, 7, false)", x.would(0, 1, 10, 7, false), NOTHING);
        wet(x, 3);
        CHECK.due("would(0, 0, 5, 1, true): half of 3", x.would(0, 0, 5, 1, true), 505);
        CHECK.due("would(0, 0, 5, 18, true)", x.would(0, 0, 5, 18, true), 539);
        wet(x, 5);
        CHECK.due("castsIn(0, 0)", x.castsIn(0, 0), 1);
        CHECK.due("would(0, 0, 5, 1, true): half of 5, a cast", x.would(0, 0, 5, 1, true), 503);
        CHECK.due("account(14)", x.account(14), 8);
    }

    private static void wouldAmongOthers() {
        CHECK.promise(24);
        CountedGreen x = straightGreen(6);
        x.rink(11, 15);
        x.begin(0, 30);
        x.bowl(0, 0, 7, 13, true);
        CHECK.due("would(0, 0, 7, 13, true): not in its own way", x.would(0, 0, 7, 13, true), 730);
        CHECK.due("would(0, 2, 7, 13, true): whosever turn", x.would(0, 2, 7, 13, true), 729);
        CHECK.due("would(0, 1, 8, 13, true)", x.would(0, 1, 8, 13, true), 830);
        x.bowl(0, 1, 7, 13, true);
        CHECK.due("woodOf(1, 5)", x.woodOf(1, 5), 29);
        CHECK.due("would(0, 2, 7, 13, true): two are passed", x.would(0, 2, 7, 13, true), 728);
        CHECK.due("would(0, 1, 7, 13, true)", x.would(0, 1, 7, 13, true), 729);
        CHECK.due("would(0, 0, 7, 13, true)", x.would(0, 0, 7, 13, true), 730);
        CHECK.due("would(1, 0, 11, 13, true): on another rink", x.would(1, 0, 11, 13, true), 1130);
        x.begin(1, 30);
        x.bowl(1, 2, 13, 13, true);
        CHECK.due("would(1, 0, 13, 13, true)", x.would(1, 0, 13, 13, true), 1329);
        x.bowl(0, 4, 7, 18, true);
        x.bowl(0, 3, 7, 18, true);
        CHECK.due("would(0, 5, 7, 18, true)", x.would(0, 5, 7, 18, true), 738);
        CHECK.due("would(0, 5, 7, 19, true): dead at once", x.would(0, 5, 7, 19, true), NOTHING);
    }

    /** Casts and rain that keep weak woods at the length 0, where the second one has no lesser length. */
    private static void slowWoods() {
        CHECK.promise(7);
        CountedGreen x = straightGreen(4);
        wet(x, 20);
        x.hour(9);
        CHECK.due("rinkOf(0, 3)", x.rinkOf(0, 3), 9);
        wet(x, 7);
        x.begin(0, 20);
        wet(x, 20);
        CHECK.due("rinkOf(0, 2)", x.rinkOf(0, 2), 20);
        CHECK.due("would(0, 0, 7, 7, true)", x.would(0, 0, 7, 7, true), 700);
        CHECK.due("would(0, 0, 7, 8, true)", x.would(0, 0, 7, 8, true), 701);
        CHECK.due("would(0, 0, 7, 20, true)", x.would(0, 0, 7, 20, true), 725);
        CHECK.due("bowl(0, 0, 7, 1, true)", x.bowl(0, 0, 7, 1, true), 400);
        CHECK.due("bowl(0, 1, 7, 8, true)", x.bowl(0, 1, 7, 8, true), 361);
        CHECK.due("would(0, 2, 7, 1, true)", x.would(0, 2, 7, 1, true), NOTHING);
        CHECK.due("would(0, 0, 7, 1, true)", x.would(0, 0, 7, 1, true), 700);
        CHECK.due("bowl(0, 2, 7, 8, true): no lesser length", x.bowl(0, 2, 7, 8, true), NOTHING);
        CHECK.due("rinkOf(0, 7)", x.rinkOf(0, 7), 1);
        CHECK.due("bowl(0, 3, 6, 8, true)", x.bowl(0, 3, 6, 8, true), 362);
        CHECK.due("close(0): 361 is the least", x.close(0), 12);
    }

    private static void bestStrength() {
        CHECK.promise(25);
        CountedGreen x = new CountedGreen();
        x.rink(5, 10);
        x.wood(0, 0);
        x.wood(1, 9);
        x.wood(0, 3);
        CHECK.due("bestStrength(1, 0, 7, true)", x.bestStrength(1, 0, 7, true), NONE);
        CHECK.due("bestStrength(0, 3, 7, true)", x.bestStrength(0, 3, 7, true), NONE);
        CHECK.due("bestStrength(-1, -1, 0, true)", x.bestStrength(-1, -1, 0, true), NONE);
        CHECK.due("bestStrength(0, 0, 4, true)", x.bestStrength(0, 0, 4, true), BAD);
        CHECK.due("bestStrength(0, 0, 11, true)", x.bestStrength(0, 0, 11, true), BAD);
        CHECK.due("bestStrength(0, 0, 7, true)", x.bestStrength(0, 0, 7, true), NOTHING);
        x.begin(0, 31);
        CHECK.due("bestStrength(0, 0, 7, true): 30 and 32", x.bestStrength(0, 0, 7, true), 13);
        CHECK.due("bestStrength(0, 1, 10, true)", x.bestStrength(0, 1, 10, true), 1);
        CHECK.due("bestStrength(0, 1, 10, false)", x.bestStrength(0, 1, 10, false), 6);
        CHECK.due("bestStrength(0, 2, 5, true)", x.bestStrength(0, 2, 5, true), 13);
        CHECK.due("bestStrength(0, 2, 5, false)", x.bestStrength(0, 2, 5, false), 3);
        x.bowl(0, 0, 7, 13, true);
        CHECK.due("bestStrength(0, 0, 7, true): itself", x.bestStrength(0, 0, 7, true), 13);
        CHECK.due("bestStrength(0, 2, 7, false)", x.bestStrength(0, 2, 7, false), 9);
        x.wood(1, 0);
        CHECK.due("bestStrength(0, 3, 7, true): 730 is taken", x.bestStrength(0, 3, 7, true), 14);
    }

    /** On a slow rink the greatest strength comes nearest to a far jack. */
    private static void greatestStrength() {
        CHECK.promise(25);
        CountedGreen x = straightGreen(1);
        x.begin(0, 40);
        wet(x, 9);
        CHECK.due("bestStrength(0, 0, 7, true)", x.bestStrength(0, 0, 7, true), 20);
        wet(x, 8);
        CHECK.due("bestStrength(0, 0, 7, true)", x.bestStrength(0, 0, 7, true), 20);
        wet(x, 7);
        CHECK.due("bestStrength(0, 0, 7, true): 41 is dead", x.bestStrength(0, 0, 7, true), 19);
    }

    /** All strengths but 1 lead out of the rink, and this one to the length 0, which is then taken. */
    private static void noStrength() {
        CHECK.promise(25);
        CountedGreen x = new CountedGreen();
        x.rink(0, 2);
        x.wood(0, 0);
        x.wood(1, 6);
        wet(x, 20);
        x.hour(9);
        wet(x, 7);
        x.begin(0, 20);
        wet(x, 20);
        CHECK.due("bestStrength(0, 1, 0, false)", x.bestStrength(0, 1, 0, false), 1);
        x.bowl(0, 0, 0, 1, true);
        CHECK.due("bestStrength(0, 1, 0, false)", x.bestStrength(0, 1, 0, false), NOTHING);
    }

    public static void main(String[] args) {
        begin();
        whoBegins();
        bowl();
        bowlReasons();
        close();
        nearest();
        shots();
        allShots();
        would();
        wouldAmongOthers();
        slowWoods();
        bestStrength();
        greatestStrength();
        noStrength();
        CHECK.end();
    }
}
