/** Promises 18, 19, 20, 29, 30, 31, 33 and 34: rinkOf, woodOf, clubOf, leader, describe, written, winShare, account. */
public final class TellingTest {
    private static final int NONE = BowlsGreen.NONE;
    private static final int BAD = BowlsGreen.BAD;
    private static final int NOTHING = BowlsGreen.NOTHING;
    private static final Check CHECK = new Check();

    /** An end on the rink 0 with woods of both clubs that lie, and one that is dead. */
    private static CountedGreen played() {
        CountedGreen x = new CountedGreen();
        x.rink(5, 10);
        x.rink(11, 13);
        x.wood(0, 3);
        x.wood(1, 0);
        x.wood(0, 5);
        x.wood(1, 9);
        x.rain(5);
        x.hour(2);
        x.sun(5);
        x.begin(0, 28);
        x.bowl(0, 0, 5, 13, true);
        x.bowl(0, 1, 8, 14, false);
        x.bowl(0, 2, 10, 12, false);
        return x;
    }

    private static void rinkOf() {
        CHECK.promise(18);
        CountedGreen x = played();
        int[] zero = {5, 10, 6, 1, 28, 1, 2, 1, 0};
        int[] one = {11, 13, 6, 1, 0, 0, 0, 0, 0};
        for (int what = 0; what < zero.length; what++) {
            CHECK.due("rinkOf(0, " + what + ")", x.rinkOf(0, what), zero[what]);
            CHECK.due("rinkOf(1, " + what + ")", x.rinkOf(1, what), one[what]);
        }
        CHECK.due("rinkOf(0, 9)", x.rinkOf(0, 9), BAD);
        CHECK.due("rinkOf(0, -1)", x.rinkOf(0, -1), BAD);
        CHECK.due("rinkOf(2, 0)", x.rinkOf(2, 0), NONE);
        CHECK.due("rinkOf(2, 9)", x.rinkOf(2, 9), NONE);
        CHECK.due("rinkOf(-1, 0)", x.rinkOf(-1, 0), NONE);
        CHECK.due("rinkOf(max, 0)", x.rinkOf(Integer.MAX_VALUE, 0), NONE);
        x.close(0);
        int[] closed = {5, 10, 6, 1, 0, 1, 0, 0, 1};
        for (int what = 0; what < closed.length; what++) {
            CHECK.due("rinkOf(0, " + what + ")", x.rinkOf(0, what), closed[what]);
        }
    }

    private static void woodOf() {
        CHECK.promise(19);
        CountedGreen x = played();
        int[][] woods = {
            {0, 3, 1, 0, 8, 26, 5, 1},
            {1, 0, 1, 0, 8, 28, 1, 1},
            {0, 5, 2, 0, NOTHING, NOTHING, NOTHING, 1},
            {1, 9, 0, NOTHING, NOTHING, NOTHING, NOTHING, 0},
        };
        for (int wood = 0; wood < woods.length; wood++) {
            for (int what = 0; what < woods[wood].length; what++) {
                CHECK.due("woodOf(" + wood + ", " + what + ")", x.woodOf(wood, what), woods[wood][what]);
            }
        }
        CHECK.due("woodOf(0, 8)", x.woodOf(0, 8), BAD);
        CHECK.due("woodOf(0, -1)", x.woodOf(0, -1), BAD);
        CHECK.due("woodOf(4, 0)", x.woodOf(4, 0), NONE);
        CHECK.due("woodOf(4, 8)", x.woodOf(4, 8), NONE);
        CHECK.due("woodOf(-1, 0)", x.woodOf(-1, 0), NONE);
        x.begin(1, 20);
        x.bowl(1, 0, 11, 1, true);
        x.close(0);
        int[] closed = {0, 3, 0, NOTHING, NOTHING, NOTHING, NOTHING, 1};
        for (int what = 0; what < closed.length; what++) {
            CHECK.due("woodOf(0, " + what + ")", x.woodOf(0, what), closed[what]);
        }
        x.bowl(1, 0, 13, 4, false);
        CHECK.due("woodOf(0, 3)", x.woodOf(0, 3), 1);
        CHECK.due("woodOf(0, 4)", x.woodOf(0, 4), 12);
        CHECK.due("woodOf(0, 7)", x.woodOf(0, 7), 2);
    }

    private static void clubOf() {
        CHECK.promise(20);
        CountedGreen x = played();
        x.tea(1);
        x.tea(1);
        x.wood(1, 2);
        int[] zero = {0, 0, 10, 0, 2, 0};
        int[] one = {0, 0, 8, 2, 3, 2};
        for (int what = 0; what < zero.length; what++) {
            CHECK.due("clubOf(0, " + what + ")", x.clubOf(0, what), zero[what]);
            CHECK.due("clubOf(1, " + what + ")", x.clubOf(1, what), one[what]);
        }
        x.close(0);
        int[] closed = {1, 1, 8, 2, 3, 3};
        for (int what = 0; what < closed.length; what++) {
            CHECK.due("clubOf(1, " + what + ")", x.clubOf(1, what), closed[what]);
        }
        CHECK.due("clubOf(0, 0)", x.clubOf(0, 0), 0);
        CHECK.due("clubOf(0, 5)", x.clubOf(0, 5), 2);
        CHECK.due("clubOf(0, 6)", x.clubOf(0, 6), BAD);
        CHECK.due("clubOf(0, -1)", x.clubOf(0, -1), BAD);
        CHECK.due("clubOf(2, 0)", x.clubOf(2, 0), NONE);
        CHECK.due("clubOf(2, 6)", x.clubOf(2, 6), NONE);
        CHECK.due("clubOf(-1, 0)", x.clubOf(-1, 0), NONE);
    }

    /** Lets a club win an end with so many shots, from 1 to 4, or with none close it. */
    private static void winEnd(CountedGreen x, int club, int shots) {
        x.begin(0, 20);
        for (int i = 0; i < 2 * shots; i++) {
            int turn = x.rinkOf(0, 5);
            x.bowl(0, i / 2 * 2 + turn, 5, turn == club ? 8 : 20, true);
        }
        x.close(0);
    }

    private static CountedGreen eightWoods() {
        CountedGreen x = new CountedGreen();
        x.rink(4, 6);
        for (int i = 0; i < 8; i++) {
            x.wood(i % 2, 0);
        }
        return x;
    }

    private static void leader() {
        CHECK.promise(29);
        CountedGreen x = eightWoods();
        CHECK.due("leader()", x.leader(), NOTHING);
        winEnd(x, 1, 2);
        CHECK.due("leader()", x.leader(), 1);
        winEnd(x, 0, 1);
        CHECK.due("leader(): ends are as many, shots are not", x.leader(), 1);
        winEnd(x, 0, 1);
        CHECK.due("clubOf(0, 0)", x.clubOf(0, 0), 2);
        CHECK.due("leader(): more ends", x.leader(), 0);
        winEnd(x, 1, 1);
        CHECK.due("leader()", x.leader(), 1);
        winEnd(x, 0, 1);
        winEnd(x, 1, 3);
        winEnd(x, 0, 3);
        CHECK.due("leader(): more ends", x.leader(), 0);
        x = eightWoods();
        winEnd(x, 0, 3);
        winEnd(x, 1, 1);
        winEnd(x, 1, 1);
        CHECK.due("leader(): more shots, less ends", x.leader(), 0);
        winEnd(x, 1, 1);
        CHECK.due("leader(): as many shots", x.leader(), 1);
        x = eightWoods();
        winEnd(x, 0, 2);
        winEnd(x, 1, 2);
        CHECK.due("leader(): all the same", x.leader(), NOTHING);
    }

    private static void describe() {
        CHECK.promise(30);
        CountedGreen x = new CountedGreen();
        CHECK.due("describe(0)", x.describe(0), NONE);
        x.rink(5, 10);
        x.rink(27, 29);
        CHECK.due("describe(0)", x.describe(0), 9);
        CHECK.dueText("line", Check.line(x), "5-10: dry");
        CHECK.due("describe(1)", x.describe(1), 10);
        CHECK.dueText("line", Check.line(x), "27-29: dry");
        CHECK.due("describe(2)", x.describe(2), NONE);
        CHECK.due("describe(-1)", x.describe(-1), NONE);
        CHECK.dueText("line stays", Check.line(x), "27-29: dry");
        x.rain(3);
        x.hour(1);
        x.describe(0);
        CHECK.dueText("line", Check.line(x), "5-10: wet 1");
        x.begin(0, 30);
        x.describe(0);
        CHECK.dueText("line", Check.line(x), "5-10: wet 1 j30");
        for (int i = 0; i < 12; i++) {
            x.wood(i % 2, 0);
        }
        x.bowl(0, 10, 6, 13, true);
        x.bowl(0, 11, 5, 20, true);
        x.bowl(0, 0, 5, 1, true);
        x.bowl(0, 3, 8, 13, true);
        x.bowl(0, 2, 7, 13, true);
        CHECK.due("describe(0)", x.describe(0), 34);
        CHECK.dueText("line", Check.line(x), "5-10: wet 1 j30 2/0 3/1 10/1 0/580");
        x.rain(9);
        x.hour(5);
        CHECK.due("describe(1)", x.describe(1), 13);
        CHECK.dueText("line", Check.line(x), "27-29: wet 20");
        x.close(0);
        x.describe(0);
        CHECK.dueText("line", Check.line(x), "5-10: wet 20");
    }

    private static void written() {
        CHECK.promise(31);
        CountedGreen x = new CountedGreen();
        CHECK.due("written(0)", x.written(0), NONE);
        x.rink(5, 10);
        x.describe(0);
        CHECK.due("written(0)", x.written(0), '5');
        CHECK.due("written(1)", x.written(1), '-');
        CHECK.due("written(5)", x.written(5), ' ');
        CHECK.due("written(8)", x.written(8), 'y');
        CHECK.due("written(9)", x.written(9), NONE);
        CHECK.due("written(-1)", x.written(-1), NONE);
        CHECK.due("written(min)", x.written(Integer.MIN_VALUE), NONE);
        CHECK.due("written(max)", x.written(Integer.MAX_VALUE), NONE);
        x.undo();
        x.clear();
        CHECK.dueText("line stays", Check.line(x), "5-10: dry");
    }

    private static void winShare() {
        CHECK.promise(33);
        CountedGreen x = eightWoods();
        CHECK.dueDouble("winShare()", x.winShare(), 0.0);
        x.begin(0, 20);
        CHECK.dueDouble("winShare()", x.winShare(), 0.0);
        x.close(0);
        CHECK.dueDouble("winShare()", x.winShare(), 0.0);
        winEnd(x, 0, 1);
        CHECK.dueDouble("winShare()", x.winShare(), 0.5);
        winEnd(x, 1, 2);
        CHECK.dueDouble("winShare()", x.winShare(), 2.0 / 3.0);
        x.rink(0, 3);
        x.begin(1, 20);
        x.close(1);
        x.begin(1, 20);
        x.close(1);
        x.begin(1, 20);
        x.close(1);
        x.begin(1, 20);
        x.close(1);
        CHECK.dueDouble("winShare()", x.winShare(), 2.0 / 7.0);
    }

    private static void account() {
        CHECK.promise(34);
        CountedGreen x = played();
        x.tea(0);
        x.append('r');
        int[] accounts = {2, 5, 5, 2, 4, 1, 0, 3, 11, 1, 2, 0, 1, 1, 8};
        for (int what = 0; what < accounts.length; what++) {
            CHECK.due("account(" + what + ")", x.account(what), accounts[what]);
        }
        CHECK.due("account(15)", x.account(15), BAD);
        CHECK.due("account(-1)", x.account(-1), BAD);
        x.sweep(1);
        x.begin(1, 20);
        x.bowl(1, 3, 11, 1, true);
        CHECK.due("account(5)", x.account(5), 2);
        x.close(0);
        CHECK.due("account(5)", x.account(5), 1);
        CHECK.due("account(6)", x.account(6), 1);
        CHECK.due("account(7)", x.account(7), 3);
        CHECK.due("account(12)", x.account(12), 4);
        CHECK.due("account(8)", x.account(8), 10);
        CHECK.due("account(9)", x.account(9), 2);
        CHECK.due("account(10)", x.account(10), 1);
        CHECK.due("account(11)", x.account(11), 1);
        x.bowl(1, 0, 11, 1, true);
        CHECK.due("account(7)", x.account(7), 4);
        x.close(1);
        CHECK.due("account(6): of both rinks", x.account(6), 2);
    }

    public static void main(String[] args) {
        rinkOf();
        woodOf();
        clubOf();
        leader();
        describe();
        written();
        winShare();
        account();
        CHECK.end();
    }
}
