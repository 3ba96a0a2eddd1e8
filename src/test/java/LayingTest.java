/** Promises 1, 3, 4, 5 and 21: a new object, append, rink, wood, rinkAt. */
public final class LayingTest {
    private static final int NONE = BowlsGreen.NONE;
    private static final int BAD = BowlsGreen.BAD;
    private static final int REFUSED = BowlsGreen.REFUSED;
    private static final int NOTHING = BowlsGreen.NOTHING;
    private static final Check CHECK = new Check();

    private static void newObject() {
        CHECK.promise(1);
        CountedGreen x = new CountedGreen();
        int[] accounts = {0, 1, 2, 0, 0, 0, 0, 0, 12, 0, 0, 0, 0, 0, 0};
        for (int what = 0; what < accounts.length; what++) {
            CHECK.due("account(" + what + ")", x.account(what), accounts[what]);
        }
        int[] clubs = {0, 0, 10, 0, 0, 0};
        for (int what = 0; what < clubs.length; what++) {
            CHECK.due("clubOf(0, " + what + ")", x.clubOf(0, what), clubs[what]);
            CHECK.due("clubOf(1, " + what + ")", x.clubOf(1, what), clubs[what]);
        }
        CHECK.due("rinkOf(0, 0)", x.rinkOf(0, 0), NONE);
        CHECK.due("woodOf(0, 0)", x.woodOf(0, 0), NONE);
        CHECK.due("fault()", x.fault(), NOTHING);
        CHECK.due("reason(0, false)", x.reason(0, false), NOTHING);
        CHECK.due("reason(0, true)", x.reason(0, true), NOTHING);
        CHECK.due("written(0)", x.written(0), NONE);
        CHECK.due("leader()", x.leader(), NOTHING);
        CHECK.due("undo()", x.undo(), NOTHING);
        CHECK.due("restore()", x.restore(), NOTHING);
    }

    private static void append() {
        CHECK.promise(3);
        CountedGreen x = new CountedGreen();
        CHECK.due("append(31)", x.append((char) 31), BAD);
        CHECK.due("append(127)", x.append((char) 127), BAD);
        CHECK.due("append(0)", x.append((char) 0), BAD);
        CHECK.due("append(65535)", x.append((char) 65535), BAD);
        CHECK.due("append(256 + 65)", x.append((char) 321), BAD);
        CHECK.due("account(13)", x.account(13), 0);
        CHECK.due("append(32)", x.append((char) 32), 1);
        CHECK.due("append(126)", x.append((char) 126), 2);
        CHECK.due("account(13)", x.account(13), 2);
        for (int i = 3; i <= 60; i++) {
            CHECK.due("append('a')", x.append('a'), i);
        }
        CHECK.due("append('a') at 60", x.append('a'), BAD);
        CHECK.due("account(13)", x.account(13), 60);
        CHECK.due("account(14)", x.account(14), 0);
    }

    private static void rink() {
        CHECK.promise(4);
        CountedGreen x = new CountedGreen();
        CHECK.due("rink(-1, 3)", x.rink(-1, 3), BAD);
        CHECK.due("rink(27, 30)", x.rink(27, 30), BAD);
        CHECK.due("rink(30, 32)", x.rink(30, 32), BAD);
        CHECK.due("rink(-3, -1)", x.rink(-3, -1), BAD);
        CHECK.due("rink(5, 6)", x.rink(5, 6), BAD);
        CHECK.due("rink(6, 4)", x.rink(6, 4), BAD);
        CHECK.due("rink(5, 15)", x.rink(5, 15), BAD);
        CHECK.due("rink(min, max)", x.rink(Integer.MIN_VALUE, Integer.MAX_VALUE), BAD);
        CHECK.due("rink(max, min)", x.rink(Integer.MAX_VALUE, Integer.MIN_VALUE), BAD);
        CHECK.due("rink(27, 29)", x.rink(27, 29), 0);
        CHECK.due("rink(0, 9)", x.rink(0, 9), 1);
        CHECK.due("rink(9, 12)", x.rink(9, 12), REFUSED);
        CHECK.dueText("reasons", Check.reasons(x), "2/1");
        CHECK.due("rink(24, 27)", x.rink(24, 27), REFUSED);
        CHECK.dueText("reasons", Check.reasons(x), "2/0");
        CHECK.due("rink(2, 5)", x.rink(2, 5), REFUSED);
        CHECK.dueText("reasons", Check.reasons(x), "2/1");
        CHECK.due("rink(13, 15)", x.rink(13, 15), 2);
        CHECK.due("rink(8, 16)", x.rink(8, 16), REFUSED);
        CHECK.dueText("reasons: the lowest rink", Check.reasons(x), "2/1");
        CHECK.due("rink(11, 17)", x.rink(11, 17), REFUSED);
        CHECK.dueText("reasons: one round another", Check.reasons(x), "2/2");
        CHECK.due("rink(16, 20)", x.rink(16, 20), 3);
        CHECK.due("rink(10, 12)", x.rink(10, 12), REFUSED);
        CHECK.dueText("reasons", Check.reasons(x), "1/4");
        CHECK.due("rink(0, 2)", x.rink(0, 2), REFUSED);
        CHECK.dueText("reasons: 1 before 2", Check.reasons(x), "1/4");
        CHECK.due("rink(0, 1)", x.rink(0, 1), BAD);
        CHECK.due("account(3)", x.account(3), 4);
        CHECK.due("account(14)", x.account(14), 4);
        int[] third = {16, 20, 0, 0, 0, 0, 0, 0, 0};
        for (int what = 0; what < third.length; what++) {
            CHECK.due("rinkOf(3, " + what + ")", x.rinkOf(3, what), third[what]);
        }
    }

    private static void wood() {
        CHECK.promise(5);
        CountedGreen x = new CountedGreen();
        CHECK.due("wood(-1, 0)", x.wood(-1, 0), NONE);
        CHECK.due("wood(2, 0)", x.wood(2, 0), NONE);
        CHECK.due("wood(2, 10)", x.wood(2, 10), NONE);
        CHECK.due("wood(0, -1)", x.wood(0, -1), BAD);
        CHECK.due("wood(1, 10)", x.wood(1, 10), BAD);
        for (int i = 0; i < 16; i++) {
            CHECK.due("wood(" + i % 2 + ", " + i % 10 + ")", x.wood(i % 2, i % 10), i);
        }
        CHECK.due("wood(0, 0)", x.wood(0, 0), REFUSED);
        CHECK.dueText("reasons", Check.reasons(x), "1/16");
        CHECK.due("wood(2, 0)", x.wood(2, 0), NONE);
        CHECK.due("wood(0, 10)", x.wood(0, 10), BAD);
        CHECK.due("account(4)", x.account(4), 16);
        CHECK.due("woodOf(9, 0)", x.woodOf(9, 0), 1);
        CHECK.due("woodOf(9, 1)", x.woodOf(9, 1), 9);
        CHECK.due("woodOf(10, 1)", x.woodOf(10, 1), 0);
        CHECK.due("account(14)", x.account(14), 8);
    }

    private static void rinkAt() {
        CHECK.promise(21);
        CountedGreen x = new CountedGreen();
        CHECK.due("rinkAt(0)", x.rinkAt(0), NONE);
        x.rink(20, 25);
        x.rink(0, 3);
        x.rink(10, 15);
        CHECK.due("rinkAt(0)", x.rinkAt(0), 1);
        CHECK.due("rinkAt(1)", x.rinkAt(1), 2);
        CHECK.due("rinkAt(2)", x.rinkAt(2), 0);
        CHECK.due("rinkAt(3)", x.rinkAt(3), NONE);
        CHECK.due("rinkAt(-1)", x.rinkAt(-1), NONE);
        CHECK.due("rinkAt(min)", x.rinkAt(Integer.MIN_VALUE), NONE);
        CHECK.due("rinkAt(max)", x.rinkAt(Integer.MAX_VALUE), NONE);
        x.rink(4, 6);
        CHECK.due("rinkAt(1)", x.rinkAt(1), 3);
        CHECK.due("rinkAt(3)", x.rinkAt(3), 0);
    }

    public static void main(String[] args) {
        newObject();
        append();
        rink();
        wood();
        rinkAt();
        CHECK.end();
    }
}
