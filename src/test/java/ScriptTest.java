/** Promises 15, 16 and 17: script, fault, reason. */
public final class ScriptTest {
    private static final int NONE = BowlsGreen.NONE;
    private static final int BAD = BowlsGreen.BAD;
    private static final int REFUSED = BowlsGreen.REFUSED;
    private static final int NOTHING = BowlsGreen.NOTHING;
    private static final Check CHECK = new Check();

    private static CountedGreen green() {
        CountedGreen x = new CountedGreen();
        x.rink(0, 9);
        x.rink(10, 19);
        x.wood(0, 3);
        x.wood(1, 5);
        return x;
    }

    private static void orders() {
        CHECK.promise(15);
        CountedGreen x = green();
        CHECK.due("e1:30;b1,0@14*13-", Check.script(x, "e1:30;b1,0@14*13-"), 2);
        CHECK.due("account(13)", x.account(13), 0);
        CHECK.due("account(14)", x.account(14), 5);
        CHECK.due("rinkOf(1, 4)", x.rinkOf(1, 4), 30);
        CHECK.due("woodOf(0, 4)", x.woodOf(0, 4), 11);
        CHECK.due("woodOf(0, 5)", x.woodOf(0, 5), 30);
        CHECK.due("b1,01@10*12+", Check.script(x, "b1,01@10*12+"), 1);
        CHECK.due("woodOf(1, 4)", x.woodOf(1, 4), 16);
        CHECK.due("woodOf(1, 5)", x.woodOf(1, 5), 28);
        CHECK.due("c1;r9;h04;w0;t1;s5;t1", Check.script(x, "c1;r9;h04;w0;t1;s5;t1"), 7);
        CHECK.due("clubOf(1, 0)", x.clubOf(1, 0), 1);
        CHECK.due("account(0)", x.account(0), 4);
        CHECK.due("account(1)", x.account(1), 9);
        CHECK.due("account(2)", x.account(2), 5);
        CHECK.due("account(11)", x.account(11), 4);
        CHECK.due("account(10)", x.account(10), 4);
        CHECK.due("clubOf(1, 3)", x.clubOf(1, 3), 2);
        CHECK.due("account(14)", x.account(14), 7);
        CHECK.due("undo()", x.undo(), 6);
        CHECK.due("account(0)", x.account(0), 0);
        CHECK.due("rinkOf(1, 4)", x.rinkOf(1, 4), 30);
        CHECK.due("woodOf(1, 2)", x.woodOf(1, 2), 1);
        CHECK.due("account(13)", x.account(13), 0);
        CHECK.due("undo()", x.undo(), 5);
        CHECK.due("undo()", x.undo(), 4);
        CHECK.due("rinkOf(1, 4)", x.rinkOf(1, 4), 0);
        CHECK.due("twenty orders", Check.script(x, "r1;r2;r3;r4;r5;r6;r7;r8;r9;r0;s1;s2;s3;s4;s5;s6;s7;s8;s9;s0"), 20);
        CHECK.due("account(14)", x.account(14), 5);
        CHECK.due("fault()", x.fault(), NOTHING);
        CHECK.dueText("reasons", Check.reasons(x), "");
    }

    /** Each order has its own numbers, and each wood its own side. */
    private static void sides() {
        CHECK.promise(15);
        CountedGreen x = green();
        CHECK.due("both sides", Check.script(x, "e0:30;b0,0@4*10+;b0,1@6*10-;r0;h1"), 5);
        CHECK.due("woodOf(0, 4)", x.woodOf(0, 4), 7);
        CHECK.due("woodOf(1, 4)", x.woodOf(1, 4), 1);
        x.undo();
        CHECK.due("the other sides", Check.script(x, "e0:30;b0,0@4*10-;b0,1@4*10+;r9"), 4);
        CHECK.due("woodOf(0, 4)", x.woodOf(0, 4), 1);
        CHECK.due("woodOf(1, 4)", x.woodOf(1, 4), 9);
        CHECK.due("account(1)", x.account(1), 9);
    }

    private static void deadWood() {
        CHECK.promise(15);
        CountedGreen x = green();
        CHECK.due("a dead wood is no code", Check.script(x, "e0:20;b0,0@0*20+;b0,1@0*8+"), 3);
        CHECK.due("woodOf(0, 2)", x.woodOf(0, 2), 2);
        CHECK.due("woodOf(1, 2)", x.woodOf(1, 2), 1);
        CHECK.due("account(7)", x.account(7), 2);
        CHECK.dueText("reasons", Check.reasons(x), "");
        CHECK.due("closing without shots is no code", Check.script(x, "c0;e0:20;c0"), 3);
    }

    private static void refused() {
        CHECK.promise(15);
        CountedGreen x = green();
        String before = Check.all(x);
        CHECK.due("the last order fails", Check.script(x, "r9;h3;w0;t0;e0:20"), REFUSED);
        CHECK.dueText("all as before", Check.all(x), before);
        CHECK.due("account(13)", x.account(13), 0);
        CHECK.due("account(14)", x.account(14), 4);
        CHECK.promise(17);
        CHECK.dueText("reasons", Check.reasons(x), "12/4 3/20 13/-1");
        CHECK.due("h24 after r8;s0, then dry", Check.script(x, "r8;s0;h1;r0;s3;e1:20"), REFUSED);
        CHECK.dueText("reasons", Check.reasons(x), "12/5 3/8 13/1");
        CHECK.due("no such rink", Check.script(x, "e2:20"), REFUSED);
        CHECK.dueText("reasons: not refused", Check.reasons(x), "12/0");
        CHECK.due("out of range", Check.script(x, "r3;h25"), REFUSED);
        CHECK.dueText("reasons", Check.reasons(x), "12/1");
        CHECK.due("account(1)", x.account(1), 1);
        CHECK.due("no hour", Check.script(x, "h0"), REFUSED);
        CHECK.due("no such club", Check.script(x, "t0;t1;t2"), REFUSED);
        CHECK.dueText("reasons", Check.reasons(x), "12/2");
        CHECK.due("no casts", Check.script(x, "w1"), REFUSED);
        CHECK.dueText("reasons", Check.reasons(x), "12/0 9/1");
        CHECK.due("no end", Check.script(x, "s1;c1"), REFUSED);
        CHECK.dueText("reasons", Check.reasons(x), "12/1 5/1");
        CHECK.due("a turn", Check.script(x, "e0:20;b0,1@5*8-"), REFUSED);
        CHECK.dueText("reasons", Check.reasons(x), "12/1 6/0");
        CHECK.due("too few cups", Check.script(x, "t0;t0;t0;t0;t0;t0;t1;t1;t1;t1;t1;t1;t1"), REFUSED);
        CHECK.dueText("reasons", Check.reasons(x), "12/12 10/1");
        CHECK.due("no coins", Check.script(x, "t1;t1;t1;t1;t1;t1;t1;t1;t1;t1;t1"), REFUSED);
        CHECK.dueText("reasons", Check.reasons(x), "12/10 11/1");
        CHECK.dueText("all as before", Check.all(x), before);
        CHECK.due("undo()", x.undo(), 3);
    }

    private static void refusedWhenFull() {
        CHECK.promise(15);
        CountedGreen x = green();
        for (int i = 0; i < 9; i++) {
            x.brew(i + 1);
            CHECK.due("refused", Check.script(x, "r9;h3;e0:20"), REFUSED);
            CHECK.due("BAD", Check.script(x, "r9;h3;e0:2x"), BAD);
        }
        for (int left = 7; left >= 0; left--) {
            CHECK.due("undo()", x.undo(), left);
        }
        CHECK.due("account(8)", x.account(8), 13);
        CHECK.due("account(0)", x.account(0), 0);
        CHECK.due("undo()", x.undo(), NOTHING);
    }

    private static void dueFault(String text, int position) {
        CountedGreen x = new CountedGreen();
        Check.type(x, text);
        CHECK.promise(15);
        CHECK.due(text, x.script(), BAD);
        CHECK.due("account(13) after " + text, x.account(13), 0);
        CHECK.promise(16);
        CHECK.due("fault() of " + text, x.fault(), position);
        CHECK.due("account(14)", x.account(14), 0);
    }

    private static void faults() {
        String[] texts = {"", " ", ";", "x", "E0:20", "e", "e:", "e0", "e00", "e0,20", "e0:", "e0:x", "e0:200", "e0:20;",
            "e0:20;;", "e0:20 ", "b", "b,", "b0", "b0:1", "b0,", "b0,x", "b0,1", "b0,123", "b0,1*", "b0,1@", "b0,1@12",
            "b0,1@123", "b0,1@1*", "b0,1@1@", "b0,1@1*2", "b0,1@1*20", "b0,1@1*200", "b0,1@1*20x", "b0,1@1*+",
            "b0,1@1*2+-", "b0,1@1*2-;", "c", "cx", "c00", "w", "w10", "r", "r10", "s", "s-", "t", "t01", "h", "h-",
            "h123", "h1x", "h12;r", "r1;s2;q3", "r1,s2", "t1; t1", "c0;c0;c0;c0;c0;c0;c0;c0;c0;c0;c0;c0;c0;c0;c0;c0;c0;c0;c0;c0;",
            "e0/20", "r/", "r:", "h1/", "h1:"};
        int[] faults = {0, 0, 0, 0, 0, 1, 1, 2, 2, 2, 3, 3, 5, 6,
            6, 5, 1, 1, 2, 2, 3, 3, 4, 5, 4, 5, 7,
            7, 7, 6, 8, 9, 9, 9, 7,
            9, 10, 1, 1, 2, 1, 2, 1, 2, 1, 1, 1, 2, 1, 1,
            3, 2, 5, 6, 2, 3, 60,
            2, 1, 1, 2, 2};
        for (int i = 0; i < texts.length; i++) {
            dueFault(texts[i], faults[i]);
        }
    }

    private static void faultStays() {
        CHECK.promise(16);
        CountedGreen x = green();
        CHECK.due("fault()", x.fault(), NOTHING);
        Check.script(x, "r1;s");
        CHECK.due("fault()", x.fault(), 4);
        CHECK.due("r2", Check.script(x, "r2"), 1);
        CHECK.due("fault()", x.fault(), 4);
        CHECK.due("r3;t2", Check.script(x, "r3;t2"), REFUSED);
        CHECK.due("fault(): a refusal is none", x.fault(), 4);
        x.save();
        x.undo();
        x.restore();
        x.clear();
        CHECK.due("fault()", x.fault(), 4);
        Check.script(x, "q");
        CHECK.due("fault()", x.fault(), 0);
    }

    private static void reason() {
        CHECK.promise(17);
        CountedGreen x = green();
        CHECK.due("reason(-1, false)", x.reason(-1, false), BAD);
        CHECK.due("reason(min, true)", x.reason(Integer.MIN_VALUE, true), BAD);
        CHECK.due("reason(0, false)", x.reason(0, false), NOTHING);
        x.close(0);
        CHECK.due("reason(0, false)", x.reason(0, false), 5);
        CHECK.due("reason(0, true)", x.reason(0, true), 0);
        CHECK.due("reason(1, false)", x.reason(1, false), NOTHING);
        CHECK.due("reason(1, true)", x.reason(1, true), NOTHING);
        CHECK.due("reason(max, true)", x.reason(Integer.MAX_VALUE, true), NOTHING);
        CHECK.due("reason(-1, true)", x.reason(-1, true), BAD);
        Check.script(x, "r9;h2;e0:20");
        CHECK.due("reason(0, false)", x.reason(0, false), 12);
        CHECK.due("reason(0, true)", x.reason(0, true), 2);
        CHECK.due("reason(1, false)", x.reason(1, false), 3);
        CHECK.due("reason(1, true)", x.reason(1, true), 14);
        CHECK.due("reason(2, false)", x.reason(2, false), 13);
        CHECK.due("reason(2, true)", x.reason(2, true), -1);
        CHECK.due("reason(3, false)", x.reason(3, false), NOTHING);
        x.sweep(1);
        CHECK.dueText("the latest refusal", Check.reasons(x), "9/1");
        x.wood(5, 5);
        x.hour(0);
        Check.script(x, "x");
        x.save();
        x.undo();
        x.restore();
        x.clear();
        CHECK.dueText("reasons stay", Check.reasons(x), "9/1");
    }

    public static void main(String[] args) {
        orders();
        sides();
        deadWood();
        refused();
        refusedWhenFull();
        faults();
        faultStays();
        reason();
        CHECK.end();
    }
}
