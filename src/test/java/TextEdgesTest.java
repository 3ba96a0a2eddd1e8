/** The edges of the term Texts, and of the promises 15, 16, 30 and 31: script, fault, describe, written. */
public final class TextEdgesTest {
    private static final String GREEN = "rink(0, 9); rink(10, 19); wood(0, 3); wood(1, 5)";
    private static final String EIGHT_WOODS = "wood(0, 0); wood(1, 0); wood(0, 0); wood(1, 0); wood(0, 0); wood(1, 0); wood(0, 0); wood(1, 0)";

    static void hold(Check check) {
        Rows rows = new Rows(check);
        scripts(rows);
        orders(rows);
        sidesAndNumbers(rows);
        whatOrdersDo(rows);
        faults(rows);
        script(rows);
        scriptRefused(rows);
        fault(rows);
        describe(rows);
        written(rows);
    }

    private static void scripts(Rows rows) {
        String sentence = "`script = order { \";\" order`}";
        rows.hold(15, sentence,
            "script '' = BAD 0; script ';' = BAD 0; script 'r1' = 1; script 'r1;' = BAD 3; script 'r1;s1' = 2",
            "script 'r1;;s1' = BAD 3; script ';r1' = BAD 0; script 'r1,s1' = BAD 2; script 'r1s1' = BAD 2",
            "script 'r1:s1' = BAD 2; script 'r1<s1' = BAD 2; script 'r1 ;s1' = BAD 2; script 'r1; s1' = BAD 3; account(14) = 2");
        rows.hold(15, sentence,
            "script 'r1;r2;r3;r4;r5;r6;r7;r8;r9;r0;s1;s2;s3;s4;s5;s6;s7;s8;s9;s3' = 20; account(1) = 0; account(2) = 3",
            "account(14) = 1; script 'r1;r2;r3;r4;r5;r6;r7;r8;r9;r0;s1;s2;s3;s4;s5;s6;s7;s8;s9;s5;' = BAD 60; account(2) = 3");
    }

    private static void orders(Rows rows) {
        String sentence = "`order = \"e\" digit \":\" number | \"b\" digit \",\" number \"@\" number \"*\" number side | \"c\" digit | \"w\" digit |"
            + " \"r\" digit | \"s\" digit | \"t\" digit | \"h\" number`";
        rows.hold(15, sentence,
            "script 'a1' = BAD 0; script 'd1' = BAD 0; script 'f1' = BAD 0; script 'g1' = BAD 0; script 'i1' = BAD 0",
            "script 'q1' = BAD 0; script 'u1' = BAD 0; script 'v1' = BAD 0; script 'x1' = BAD 0; script 'R1' = BAD 0",
            "script 'E0:20' = BAD 0; script '1' = BAD 0; script ' r1' = BAD 0; script '~' = BAD 0; account(14) = 0");
        rows.hold(15, sentence,
            "script 'e' = BAD 1; script 'e0' = BAD 2; script 'e0:' = BAD 3; script 'e:20' = BAD 1; script 'e00:20' = BAD 2",
            "script 'e0,20' = BAD 2; script 'e0;20' = BAD 2; script 'e0:-' = BAD 3; script 'e0:200' = BAD 5; rink(0, 2)",
            "script 'e0:20' = 1; rinkOf(0, 4) = 20");
        rows.hold(15, sentence,
            "script 'b' = BAD 1; script 'b,' = BAD 1; script 'b0' = BAD 2; script 'b00,0@5*8+' = BAD 2; script 'b0:0@5*8+' = BAD 2",
            "script 'b0,' = BAD 3; script 'b0,@' = BAD 3; script 'b0,0' = BAD 4; script 'b0,0*' = BAD 4; script 'b0,00' = BAD 5",
            "script 'b0,000@5*8+' = BAD 5; script 'b0,0@' = BAD 5; script 'b0,0@*' = BAD 5; script 'b0,0@5' = BAD 6",
            "script 'b0,0@5@8+' = BAD 6; script 'b0,0@555*8+' = BAD 7; script 'b0,0@5*' = BAD 7; script 'b0,0@5*+' = BAD 7",
            "script 'b0,0@5*8' = BAD 8; script 'b0,0@5*88' = BAD 9; script 'b0,0@5*888+' = BAD 9; account(14) = 0");
        rows.hold(15, sentence,
            "script 'c' = BAD 1; script 'cc' = BAD 1; script 'c00' = BAD 2; script 'w' = BAD 1; script 'w-' = BAD 1",
            "script 'w00' = BAD 2; script 'r' = BAD 1; script 'r-1' = BAD 1; script 'r10' = BAD 2; script 's' = BAD 1",
            "script 's+1' = BAD 1; script 's01' = BAD 2; script 't' = BAD 1; script 'tt' = BAD 1; script 't01' = BAD 2",
            "script 'h' = BAD 1; script 'h-1' = BAD 1; script 'hh' = BAD 1; script 'h100' = BAD 3; account(14) = 0");
        rows.hold(15, sentence,
            "script 'r/' = BAD 1; script 'r:' = BAD 1; script 'r0' = 1; script 'r9' = 1; script 'h1/' = BAD 2",
            "script 'h1:' = BAD 2; script 'h/' = BAD 1; script 'h:' = BAD 1; script 'e/:20' = BAD 1; script 'e::20' = BAD 1",
            "script 'e0:/' = BAD 3; script 'e0::' = BAD 3; script 'e0:2/' = BAD 4; script 'e0:2:' = BAD 4; account(14) = 2");
    }

    private static void sidesAndNumbers(Rows rows) {
        rows.hold(15, "`side = \"+\" | \"-\"`",
            GREEN, "begin(0, 20); script 'b0,0@4*4*' = BAD 8; script 'b0,0@4*4,' = BAD 8; script 'b0,0@4*4.' = BAD 8",
            "script 'b0,0@4*4;' = BAD 8; script 'b0,0@4*4/' = BAD 8; script 'b0,0@4*4+-' = BAD 9; script 'b0,0@4*4++' = BAD 9",
            "script 'b0,0@4*4+' = 1; woodOf(0, 4) = 5; undo() = 5; script 'b0,0@4*4-' = 1; woodOf(0, 4) = 3");
        rows.hold(15, "`number = digit [ digit ]`",
            "script 'h1' = 1; account(0) = 1; script 'h24' = 1; account(0) = 25; script 'h01' = 1; account(0) = 26",
            "script 'h001' = BAD 3; script 'h' = BAD 1; script 'h1;h10;h2' = 3; account(0) = 39; script 'h0' = REFUSED 12/0",
            "script 'h00' = REFUSED 12/0; script 'h99' = REFUSED 12/0; script 'h25' = REFUSED 12/0; account(0) = 39");
        rows.hold(15, "`number = digit [ digit ]`",
            GREEN, "begin(1, 30); script 'b1,00@10*09+' = 1; woodOf(0, 4) = 12; woodOf(0, 5) = 22; script 'b1,1@19*13-' = 1",
            "woodOf(1, 4) = 13; woodOf(1, 5) = 30; close(1) = 11; script 'b1,1@19*99-' = REFUSED 12/0; wood(0, 0)");
    }

    private static void whatOrdersDo(Rows rows) {
        rows.hold(15, "The orders are: e, an end begins on a rink with a jack at a length;",
            GREEN, "script 'e1:40' = 1; rinkOf(1, 4) = 40; rinkOf(0, 4) = 0; script 'e0:20' = 1; rinkOf(0, 4) = 20",
            "script 'e0:20' = REFUSED 12/0 4/20; close(0); script 'e0:19' = REFUSED 12/0; script 'e0:41' = REFUSED 12/0",
            "script 'e0:2' = REFUSED 12/0; script 'e2:20' = REFUSED 12/0; script 'e9:20' = REFUSED 12/0; account(5) = 1");
        rows.hold(15, "b, on a rink a wood is bowled from a column with a strength, + to the right, - to the left;",
            GREEN, "begin(0, 30); script 'b0,0@5*10+' = 1; woodOf(0, 4) = 8; woodOf(0, 5) = 24; script 'b0,1@5*10-' = 1",
            "woodOf(1, 4) = 0; woodOf(1, 5) = 24; close(0) = 0; begin(0, 30); script 'b0,0@9*1+' = 1; woodOf(0, 4) = 9; undo() = 7",
            "script 'b0,0@10*1+' = REFUSED 12/0; script 'b0,0@0*0+' = REFUSED 12/0; script 'b0,0@0*21+' = REFUSED 12/0",
            "script 'b0,2@0*8+' = REFUSED 12/0; script 'b2,0@0*8+' = REFUSED 12/0; script 'b0,1@0*8+' = REFUSED 12/0 6/0",
            "script 'b1,0@10*8+' = REFUSED 12/0 5/1");
        rows.hold(15, "c, the end of a rink is closed;",
            GREEN, "begin(1, 30); script 'c1' = 1; rinkOf(1, 8) = 1; script 'c1' = REFUSED 12/0 5/1; script 'c2' = REFUSED 12/0",
            "begin(1, 30); bowl(1, 0, 11, 13, true) = 0; script 'c1' = 1; clubOf(0, 0) = 1; script 'c0' = REFUSED 12/0 5/0");
        rows.hold(15, "w, a rink is swept;",
            GREEN, "rain(5); sun(0); hour(4); script 'w1' = 1; rinkOf(1, 3) = 0; rinkOf(0, 3) = 4; account(8) = 10",
            "script 'w1' = REFUSED 12/0 9/1; script 'w2' = REFUSED 12/0; script 'w0;w0' = REFUSED 12/1 9/0; rinkOf(0, 3) = 4");
        rows.hold(15, "r, the rain is set;", "script 'r9' = 1; account(1) = 9; script 'r0' = 1; account(1) = 0; account(2) = 2");
        rows.hold(15, "s, the sun is set;", "script 's9' = 1; account(2) = 9; script 's0' = 1; account(2) = 0; account(1) = 1");
        rows.hold(15, "t, a club has a tea;",
            "script 't1' = 1; clubOf(1, 3) = 1; script 't0' = 1; clubOf(0, 3) = 1; script 't2' = REFUSED 12/0; 9 * tea(0)",
            "script 't0' = REFUSED 12/0 11/0; tea(1); script 't1' = REFUSED 12/0 10/1; clubOf(1, 3) = 2");
        rows.hold(15, "h, hours pass.",
            GREEN, "script 'h3' = 1; account(0) = 3; script 'h0' = REFUSED 12/0; script 'h24' = 1; account(0) = 27",
            "script 'h25' = REFUSED 12/0; account(0) = 27; rain(7); script 'h1' = 1; rinkOf(1, 2) = 5; rinkOf(1, 3) = 1");
    }

    private static void faults(Rows rows) {
        String sentence = "The fault position of a text is the index of its first character that cannot continue such a text, or its length"
            + " if it ends too early.";
        rows.hold(16, sentence,
            "script '' = BAD 0; script 'e' = BAD 1; script 'e1:20;b' = BAD 7; script 'e1:20;b1,0@5*8' = BAD 14",
            "script 'e1:20;b1,0@5*8+;' = BAD 16; script 'r1;h' = BAD 4; fault() = 4; account(13) = 0");
        rows.hold(16, sentence,
            "script 'x' = BAD 0; script 'rx' = BAD 1; script 'r1x' = BAD 2; script 'r1;x' = BAD 3; script 'h1x' = BAD 2",
            "script 'h12x' = BAD 3; script 'e0:20x' = BAD 5; script 'r1;x;y' = BAD 3; script 'h123;x' = BAD 3",
            "type 'r1;r2;r3;r4;r5;r6;r7;r8;r9;r0;s1;s2;s3;s4;s5;s6;s7;s8;s9;h12'; append(59) = BAD; script() = 20",
            "script 'r1;r2;r3;r4;r5;r6;r7;r8;r9;r0;s1;s2;s3;s4;s5;s6;s7;s8;s9;r12' = BAD 59");
    }

    private static void script(Rows rows) {
        rows.hold(15, "Carries out the orders of the input, one after the other, all of them or none.",
            GREEN, "script 'r9;s0;h1;r0;s2;h1;e0:30;b0,0@1*13+;c0;w1' = 10; account(0) = 2; clubOf(0, 0) = 1; account(11) = 2",
            "undo() = 4; account(0) = 0; account(1) = 1; rinkOf(0, 8) = 0; woodOf(0, 7) = 0; account(8) = 12");
        rows.hold(15, "all of them or none.",
            GREEN, "script 't0;t1;r9;h9;w0;w1;r0;s9;h3;e0:20;b0,0@1*8+;b0,1@1*8+;c0;c0' = REFUSED 12/13 5/0; account(0) = 0",
            "account(8) = 12; script 't0;t1;r9;h9;w0;w1;r0;s9;h3;e0:20;b0,0@1*8+;b0,1@1*8+;c0;c' = BAD 57; account(0) = 0");
        rows.hold(15, "The input is empty then, whatever is returned.",
            "type 'r5'; account(13) = 2; script() = 1; account(13) = 0; script() = BAD 0; type 'h0'; script() = REFUSED 12/0",
            "account(13) = 0; script() = BAD 0; type 'h'; script() = BAD 1; account(13) = 0; append(104) = 1; append(51) = 2",
            "script() = 1; account(0) = 3; account(13) = 0");
        rows.hold(15, "Returns the number of orders;",
            "script 'h1' = 1; script 'h1;h1' = 2; account(0) = 3; account(14) = 2",
            "script 'r1;r2;r3;r4;r5;r6;r7;r8;r9;r0;s1;s2;s3;s4;s5;s6;s7;s8;s9;s0' = 20; account(14) = 3");
        rows.hold(15, "BAD, where the fault position is kept;",
            "script 'r7;r' = BAD 4; fault() = 4; account(1) = 1; account(14) = 0; script '' = BAD 0; fault() = 0; reasons ''");
        rows.hold(15, "REFUSED for 12.",
            "script 'r7;h0' = REFUSED 12/1; account(1) = 1; account(14) = 0; fault() = NOTHING; script 'e0:20;r8' = REFUSED 12/0",
            "account(1) = 1; script 'r7;h1' = 2");
        rows.hold(15, "and in a script it is no code by which an order is refused.",
            GREEN, "script 'e0:20;b0,0@0*20+;b0,1@0*19-;c0' = 4; woodOf(0, 7) = 1; woodOf(1, 7) = 1; rinkOf(0, 8) = 1",
            "begin(0, 20); script 'b0,0@9*4+' = 1; woodOf(0, 2) = 2; reasons ''");
    }

    private static void scriptRefused(Rows rows) {
        rows.hold(15, "A call that returns a code leaves everything as it was, except that script empties the input, and that reasons and"
            + " fault positions are kept.",
            GREEN, "rain(5); hour(2); begin(0, 30); bowl(0, 0, 4, 13, true) = 25; describe(0); save() = 2; type 'x'; script() = BAD 0",
            "script 'b0,1@4*8+;c0;e0:20;b0,0@4*8-;h3;h0' = REFUSED 12/5; script 't0;t1;t2' = REFUSED 12/2",
            "script 'r9;s0;h1;w1;c0;e0:20' = REFUSED 12/5 3/15 13/-1; script 'c0;e1:25;c0' = REFUSED 12/2 5/0",
            "script 'c0;r' = BAD 4; rinkOf(0, 6) = 1; restore() = 2");
    }

    private static void fault(Rows rows) {
        rows.hold(16, "Returns the fault position of the latest text that had a fault.",
            "script 'r1;x' = BAD 3; fault() = 3; script 'r1;s2' = 2; fault() = 3; script 'h0' = REFUSED 12/0; fault() = 3",
            "script 'x' = BAD 0; fault() = 0; script 'h12' = 1; fault() = 0; script 'h123' = BAD 3; undo() = 1; fault() = 3");
        rows.hold(16, "Returns the position;", "script 'c0;c1;c2;' = BAD 9; fault() = 9; fault() = 9");
        rows.hold(16, "NOTHING if none had one.",
            "fault() = NOTHING; script 'r1' = 1; fault() = NOTHING; script 'c0' = REFUSED 12/0; fault() = NOTHING; append(31) = BAD",
            "fault() = NOTHING; type 'x'; fault() = NOTHING; script() = BAD 0; fault() = 0");
    }

    private static void describe(Rows rows) {
        rows.hold(30, "Writes a line about a rink, in place of the one before: its first and its last column with \"-\" between them, \":\", a"
            + " blank and \"dry\", or \"wet \" and by how much;",
            "rink(0, 9); rink(10, 12); rain(3); describe(0) = 8; line '0-9: dry'; describe(1) = 10; line '10-12: dry'; hour(1)",
            "describe(0) = 10; line '0-9: wet 1'; hour(8); describe(0) = 10; line '0-9: wet 9'; hour(1); describe(1) = 13",
            "line '10-12: wet 10'; hour(15); describe(0) = 11; line '0-9: wet 20'; sun(9); hour(4); describe(0) = 8; line '0-9: dry'");
        rows.hold(30, "if an end is played, a blank, \"j\" and the length of its jack;",
            "rink(0, 2); describe(0) = 8; line '0-2: dry'; begin(0, 20); describe(0) = 12; line '0-2: dry j20'; close(0)",
            "describe(0) = 8; line '0-2: dry'; begin(0, 40); rain(9); sun(0); hour(3); describe(0) = 15; line '0-2: wet 20 j40'");
        rows.hold(30, "and for each wood that lies on it, by its distance, a blank, the number, \"/\" and its distance;",
            "rink(5, 10); rink(11, 13)", EIGHT_WOODS, "wood(0, 0); wood(1, 0); wood(0, 0)", "begin(0, 40); begin(1, 30)",
            "bowl(0, 10, 10, 1, true) = 1165; bowl(0, 9, 7, 18, true) = 0; bowl(0, 2, 8, 18, true) = 1; bowl(0, 1, 6, 18, true) = 1",
            "bowl(0, 0, 7, 19, true) = NOTHING; bowl(1, 4, 12, 13, true) = 0; describe(0) = 33; line '5-10: dry j40 9/0 1/1 2/1 10/1165'",
            "describe(1) = 18; line '11-13: dry j30 4/0'; close(0) = 11; describe(0) = 9; line '5-10: dry'");
        rows.hold(30, "as in \"5-10: wet 3 j30 2/4 7/13\".",
            "rink(5, 10)", EIGHT_WOODS, "begin(0, 30); bowl(0, 2, 7, 12, true) = 4; bowl(0, 7, 10, 14, true) = 13; sun(0); rain(3); hour(1)",
            "describe(0) = 24; line '5-10: wet 3 j30 2/4 7/13'");
        rows.hold(30, "Returns the length of the line;",
            "rink(0, 2)", EIGHT_WOODS, "begin(0, 20); bowl(0, 0, 1, 8, true); bowl(0, 1, 1, 8, true); bowl(0, 2, 1, 8, true)",
            "bowl(0, 3, 1, 8, true); bowl(0, 4, 1, 8, true); bowl(0, 5, 1, 8, true); bowl(0, 6, 1, 8, true); bowl(0, 7, 1, 8, true)",
            "describe(0) = 48; line '0-2: dry j20 0/0 1/1 2/4 3/9 4/16 5/25 6/36 7/49'");
        rows.hold(30, "NONE if there is no such rink.",
            "describe(0) = NONE; line ''; rink(0, 2); describe(0) = 8; describe(-1) = NONE; describe(1) = NONE; describe(min) = NONE",
            "describe(max) = NONE; line '0-2: dry'; rain(9); hour(1); describe(1) = NONE; line '0-2: dry'");
    }

    private static void written(Rows rows) {
        rows.hold(31, "Returns the code of a character of the written line, which is empty at first.",
            "written(0) = NONE; rink(0, 2); written(0) = NONE; describe(0) = 8; written(0) = 48; written(1) = 45; written(2) = 50",
            "written(3) = 58; written(4) = 32; written(5) = 100; written(6) = 114; written(7) = 121; written(8) = NONE");
        rows.hold(31, "its index, from 0", "rink(27, 29); describe(0) = 10; written(-1) = NONE; written(0) = 50; written(9) = 121");
        rows.hold(31, "NONE if there is none.",
            "written(0) = NONE; written(-1) = NONE; written(max) = NONE; rink(27, 29); rink(0, 2); describe(0) = 10; written(9) = 121",
            "written(10) = NONE; written(-1) = NONE; written(min) = NONE; written(max) = NONE; describe(1) = 8; written(7) = 121",
            "written(8) = NONE; written(9) = NONE");
    }

    public static void main(String[] args) {
        Check check = new Check();
        hold(check);
        check.end();
    }
}
