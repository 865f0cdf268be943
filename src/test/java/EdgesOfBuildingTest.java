/**
 * The edges that BUILDING names (promises 2 to 7): for each sentence a test of its own, with the last that is taken and
 * the first that is refused.
 */
public final class EdgesOfBuildingTest {
    private static final Due DUE = new Due();
    private static final String[] KINDS = {"ADD", "SUB", "MUL", "LESS", "SAME", "IF", "SEQ", "WHILE", "LOCAL", "SET", "FUNC",
        "CALL", "RETURN", "ERROR", "PRINT", "CREATE", "RESUME", "YIELD", "STATUS", "FAULT"};
    private static final int[] LEAST = {2, 2, 2, 2, 2, 3, 0, 1, 1, 1, 0, 1, 1, 1, 1, 1, 2, 1, 1, 0};
    private static final int ANY = 1000;
    private static final int[] MOST = {2, 2, 2, 2, 2, 3, ANY, ANY, ANY, 1, ANY, 4, 1, 1, 1, 1, 2, 1, 1, 0};
    // These end in each way, and each answer of one of them differs from that before any run.
    private static final String[] RUNS = {"(LOCAL:0 (PRINT 6) (WHILE 0) v0)", "(LOCAL:0 (PRINT 5) (WHILE 0) (ERROR 8))",
        "(LOCAL:0 (CREATE (FUNC:0:0)) (WHILE 0) (PRINT v0))", "(CALL (FUNC:0:3 (PRINT v2) (WHILE 1)) 7 8 9)"};
    private static final String ANY_NODE = "1 v0 (SEQ (FAULT (FUNC:0:0";

    public static void main(String[] args) {
        nodesAtMost();
        nodesOfClosedListsCount();
        nodesAreNumberedAsBegun();
        beginsInsideTheInnermostOrAsRoot();
        completeWithANodeAndNoOpenList();
        refusedIfComplete();
        refusedAgainAndAgain();
        refusedCallsKeepTheAnswers();
        takenCallsKeepTheAnswers();
        partsAllowed();
        partsOfPartsDoNotCount();
        partsAllowedAreManyForSome();
        openListsAtMost();
        opsThatAreNone();
        operandOfLocal();
        operandOfSet();
        operandsOfFunc();
        namesFromZeroToSeven();
        closeWithNoListOpen();
        closeWithFewerParts();
        operandsNotUsed();
        operandsNotUsedMakeNoVariable();
        dropTakesBackAll();
        dropKeepsTheAnswers();
        DUE.end();
    }

    private static CoroutineScript built(String text) {
        CoroutineScript x = new CoroutineScript(6, 200);
        Script.build(DUE, x, text);
        return x;
    }

    private static void runs(CoroutineScript x, String text, int answer) {
        DUE.is(text + ": run()", x.run(), answer);
    }

    /** The calls in the middle are refused and change nothing: without them all answers are the same. */
    private static CoroutineScript refused(String before, String calls, String after) {
        CoroutineScript plain = built(before);
        CoroutineScript tried = built(before);
        Script.refuse(DUE, tried, calls);
        Script.build(DUE, plain, after);
        Script.build(DUE, tried, after);
        String text = before + " [" + calls + "] " + after;
        runs(tried, text, plain.run());
        String due = Script.answers(plain);
        String got = Script.answers(tried);
        DUE.is(text + ": that the answers are " + due + " and not " + got, got.equals(due), true);
        return tried;
    }

    private static void failsAt(CoroutineScript x, int code, int place) {
        DUE.is("error()", x.error(), code);
        DUE.is("place()", x.place(), place);
    }

    private static void nodesAtMost() {
        DUE.sentence("a tree of at most 96 nodes .. open, num and name are refused if the program has 96 nodes");
        String nodes95 = "(LOCAL:0" + " 3".repeat(94);
        DUE.is("value() of 96 nodes, the last a number", refused(nodes95 + " 7", ANY_NODE, ")").value(), 7);
        DUE.is("value() of 96 nodes, the last a name", refused(nodes95 + " v0", ANY_NODE, ")").value(), 3);
        DUE.is("kind() of 96 nodes, the last a list", refused(nodes95 + " (SEQ)", ANY_NODE, ")").kind(), 0);
        DUE.is("kind() of 96 nodes, the last an open list", refused(nodes95 + " (SEQ", ANY_NODE, "))").kind(), 0);
        refused(nodes95 + " (ADD", ANY_NODE + ")", "");
        runs(built("(SEQ" + " 3".repeat(94) + ")"), "95 nodes", CoroutineScript.OK);
    }

    private static void nodesOfClosedListsCount() {
        DUE.sentence("96 nodes: lists, numbers and names");
        String nodes95 = "(LOCAL:0 5" + " (SEQ (ADD v0 1))".repeat(23) + " 6";
        refused(nodes95 + " 7", ANY_NODE, ")");
        refused(nodes95 + " v0", ANY_NODE, ")");
        refused(nodes95 + " (SEQ", ANY_NODE, "))");
    }

    private static void nodesAreNumberedAsBegun() {
        DUE.sentence("numbered 0, 1, .. in the order in which they are begun");
        new Script(DUE, "(ERROR (SEQ 7))").fails(7, 0);
        new Script(DUE, "(SEQ (SEQ 1 (SEQ 2 3)) (ERROR 8))").fails(8, 6);
        new Script(DUE, "(SEQ" + " 1".repeat(93) + " (ERROR 9))").fails(9, 94);
        // The last node is a list too: the 41st function.
        String forty = "(SEQ (LOCAL:0 0 (WHILE (LESS v0 40) (FUNC:0:0) (SET:0 (ADD v0 1))))";
        new Script(DUE, forty + " 1".repeat(83) + " (FUNC:0:0))").fails(7, 95);
    }

    private static void beginsInsideTheInnermostOrAsRoot() {
        DUE.sentence("open() begins a list inside the innermost open list"
                + " (or as the root), num() and name() add a leaf there");
        new Script(DUE, "4").gives(4);
        new Script(DUE, "(SEQ)").givesKind(0);
        new Script(DUE, "(SUB (SUB 9 (SUB 5 1)) (SUB 4 (SUB 3 1)))").gives(3);
        new Script(DUE, "(LOCAL:0 2 (SUB (SUB v0 7) v0))").gives(-7);
        refused("", "v0 (SET:0 )", "(ERROR 4)");
    }

    private static void completeWithANodeAndNoOpenList() {
        DUE.sentence("The program is COMPLETE when it has a node and no list is open");
        CoroutineScript x = built("");
        runs(x, "nothing", CoroutineScript.INCOMPLETE);
        Script.build(DUE, x, "(SEQ");
        runs(x, "one open list", CoroutineScript.INCOMPLETE);
        Script.build(DUE, x, "(SEQ 1 2)");
        runs(x, "an ended list inside an open one", CoroutineScript.INCOMPLETE);
        Script.build(DUE, x, ")");
        runs(x, "no open list", CoroutineScript.OK);
        runs(built("1"), "a number", CoroutineScript.OK);
        runs(built("(SEQ".repeat(16) + ")".repeat(15)), "16 lists, 15 ended", CoroutineScript.INCOMPLETE);
        runs(built("(SEQ".repeat(16) + ")".repeat(16)), "16 lists, all ended", CoroutineScript.OK);
    }

    private static void refusedIfComplete() {
        DUE.sentence("open, num and name are refused if the program is complete");
        for (String text : new String[] {"1", "(SEQ)", "(FUNC:0:3)", "(LOCAL:0 1 v0)", "(SEQ 1 (ERROR 5))",
            "(WHILE 1 (PRINT 2))"}) {
            refused(text, ANY_NODE + ")", "");
            Script.refuse(DUE, hasRun(text), ANY_NODE + ")");
        }
    }

    private static void refusedAgainAndAgain() {
        DUE.sentence("refused (they answer false and change nothing)");
        refused("", "v0 ) (20 (SET:0 ".repeat(50), "(ERROR 4)");
        refused("5", "1 v0 (SEQ ) ".repeat(50), "");
        refused("(SEQ 1)", "1 v0 (SEQ ) ".repeat(50), "");
        refused("(LOCAL:0 (SEQ", "v0 (SET:0 ".repeat(100), "1) v0)");
        refused("(SEQ (PRINT 4", "5 (SEQ v0 ".repeat(60), ") 6)");
        refused("(SEQ (FAULT", "1 (SEQ v0 ".repeat(60), "))");
        refused("(IF 0 2", ") ".repeat(200), "3)");
        refused("(CALL", ") ".repeat(200), "(FUNC:0:0 3))");
        refused("(SEQ".repeat(16), "(SEQ ".repeat(200), "5" + ")".repeat(16));
        refused("(LOCAL:0" + " 1".repeat(94) + "(ADD", "1 v0 (SEQ ) ".repeat(50), "");
        refused("(LOCAL:0" + " 1".repeat(93) + "(WHILE 0", "1 v0 (SEQ ".repeat(60), "))");
    }

    private static CoroutineScript hasRun(String text) {
        CoroutineScript x = built(text);
        x.run();
        return x;
    }

    private static void answersStay(CoroutineScript x, String before, String what) {
        String after = Script.answers(x);
        DUE.is(what + ": that the answers are " + before + " and not " + after, after.equals(before), true);
    }

    private static void refusedCallsKeepTheAnswers() {
        DUE.sentence("refused (they answer false and change nothing)");
        String[][] programs = {{"(LOCAL:0", ") v0 (SET:0 (20 (-1 (LOCAL:8 (FUNC:0:4"}, {"(LOCAL:0 1 (CALL v0", "v1 (SET:1 (20 (FUNC:6:3"},
            {"(FAULT", "1 v0 (SEQ"}, {"(SEQ".repeat(16), "(SEQ v0"}, {"(SEQ" + " 1".repeat(95), "1 v0 (SEQ"},
            {"(SEQ)", "1 v0 (SEQ )"}, {"5", "1 v0 (SEQ )"}};
        for (String text : RUNS) {
            keepAnswers(hasRun(text), text, ANY_NODE + " )");
            for (String[] program : programs) {
                CoroutineScript x = hasRun(text);
                x.drop();
                Script.build(DUE, x, program[0]);
                keepAnswers(x, text + ", drop and " + program[0], program[1]);
            }
        }
    }

    private static void keepAnswers(CoroutineScript x, String what, String refused) {
        String answers = Script.answers(x);
        for (String call : refused.split(" ")) {
            Script.refuse(DUE, x, call);
            answersStay(x, answers, what + " and a refused " + call);
        }
    }

    private static void takenCallsKeepTheAnswers() {
        DUE.sentence("Of the latest run that was not INCOMPLETE");
        for (String text : RUNS) {
            CoroutineScript x = hasRun(text);
            String answers = Script.answers(x);
            x.drop();
            for (String call : "(LOCAL:0 1 v0 (SET:0 (SEQ ) ) (FUNC:1:3 v1 ) )".split(" ")) {
                Script.build(DUE, x, call);
                answersStay(x, answers, text + ", drop and another program up to " + call);
            }
        }
    }

    private static void partsAllowed() {
        DUE.sentence("refused if the innermost open list has as many parts already as its kind allows");
        for (int op = 0; op < KINDS.length; op++) {
            if (MOST[op] != ANY) {
                // The list stands where it isn't evaluated: the ERROR behind it tells how many nodes there are before.
                String before = "(LOCAL:0 0 (IF 0 (" + KINDS[op];
                failsAt(refused(before + " 1".repeat(MOST[op]), ANY_NODE, ") (ERROR 5)))"), 5, 5 + MOST[op]);
                failsAt(refused(before + " v0".repeat(MOST[op]), ANY_NODE, ") (ERROR 5)))"), 5, 5 + MOST[op]);
                failsAt(refused(before + " (SEQ)".repeat(MOST[op]), ANY_NODE, ") (ERROR 5)))"), 5, 5 + MOST[op]);
            }
        }
    }

    private static void partsOfPartsDoNotCount() {
        DUE.sentence("as many parts already as its kind allows .. fewer parts than its kind needs");
        refused("(ADD (SEQ 1 2)", ")", "3)");
        refused("(IF (SEQ 1 1 1) (SEQ 2 2 2)", ")", "3)");
        new Script(DUE, "(ADD (SEQ 1 2 3) (SEQ 4 5 6))").gives(9);
        refused("(ADD (SEQ 1 2 3) (SEQ 4 5 6)", ANY_NODE, ")");
        refused("(PRINT (SEQ)", ANY_NODE, ")");
    }

    private static void partsAllowedAreManyForSome() {
        DUE.sentence("0 or more .. 1 or more");
        for (String kind : new String[] {"SEQ", "WHILE", "LOCAL", "FUNC"}) {
            CoroutineScript x = built("(" + kind + " 0".repeat(94));
            Script.build(DUE, x, "(SEQ) )");
            runs(x, kind + " with 95 parts", CoroutineScript.OK);
        }
    }

    private static void openListsAtMost() {
        DUE.sentence("open also if 16 lists are open");
        String lists = "(SEQ (FAULT (FUNC:0:0 (LOCAL:0 (ADD";
        DUE.is("value()", refused("(SEQ ".repeat(16), lists, "5" + ")".repeat(16)).value(), 5);
        DUE.is("value()", refused("(SEQ ".repeat(15) + "(SEQ)(SEQ", lists, "6" + ")".repeat(16)).value(), 6);
        DUE.is("value()", refused("(SEQ ".repeat(15) + "(FAULT", lists, ")".repeat(16)).value(), 0);
        DUE.is("value()", refused("(SEQ ".repeat(15) + "(ADD 1", lists, "3" + ")".repeat(16)).value(), 4);
        DUE.is("value()", refused("(LOCAL:0 7 ".repeat(16), lists, "v0" + ")".repeat(16)).value(), 7);
        // Lists that have ended are open no more.
        new Script(DUE, "(SEQ" + "(SEQ)".repeat(40) + "(SEQ ".repeat(15) + "8" + ")".repeat(16)).gives(8);
    }

    private static void opsThatAreNone() {
        DUE.sentence("if op is none of those below");
        String none = "(-1 (20 (21 (22 (-2147483648 (2147483647";
        failsAt(refused("", none, "(ERROR 5)"), 5, 0);
        failsAt(refused("(SEQ 1", none, "(ERROR 5))"), 5, 2);
        for (int op = 0; op <= 19; op++) {
            Script.build(DUE, built("(LOCAL:0 1"), "(" + op);
        }
    }

    private static void operandOfLocal() {
        DUE.sentence("LOCAL a: a 0 to 7");
        failsAt(refused("(SEQ", "(LOCAL:-1 (LOCAL:8 (LOCAL:9 (LOCAL:-2147483648 (LOCAL:2147483647", "(ERROR 5))"), 5, 1);
        refused("", "(LOCAL:-1 (LOCAL:8", "(SEQ)");
        for (int a = 0; a <= 7; a++) {
            new Script(DUE, "(LOCAL:" + a + " 9 v" + a + ")").gives(9);
        }
    }

    private static void operandOfSet() {
        DUE.sentence("SET a: a variable named a is in scope");
        String others = "(SET:-1 (SET:0 (SET:2 (SET:4 (SET:8 (SET:-2147483648 (SET:2147483647";
        DUE.is("value()", refused("(LOCAL:3 1", others, "(SET:3 6) v3)").value(), 6);
        refused("(LOCAL:3", "(SET:3 " + others, "1)");
        refused("(LOCAL:3 (SEQ", "(SET:3 " + others, ") (SET:3 5))");
        refused("(SEQ (LOCAL:3 1 (SET:3 2))", "(SET:3", ")");
        refused("", "(SET:0 (SET:7", "(SEQ)");
        DUE.is("value()", refused("(CALL (FUNC:1:2", "(SET:0 (SET:3", "(SET:1 6) (SET:2 7) (SUB v2 v1)) 0 0)").value(), 1);
        refused("(CALL (FUNC:5:3", "(SET:4 (SET:8", "(SET:5 (SET:7 1))) 0 0 0)");
    }

    private static void operandsOfFunc() {
        DUE.sentence("FUNC a b: b 0 to 3, a 0 or more and a + b at most 8");
        failsAt(refused("(SEQ", "(FUNC:0:-1 (FUNC:0:4 (FUNC:4:4 (FUNC:9:-1 (FUNC:8:-2147483648"
                + " (FUNC:0:2147483647", "(ERROR 5))"), 5, 1);
        failsAt(refused("(SEQ", "(FUNC:-1:0 (FUNC:-1:1 (FUNC:-1:3 (FUNC:-2147483648:0"
                + " (FUNC:-2147483648:3", "(ERROR 5))"), 5, 1);
        failsAt(refused("(SEQ", "(FUNC:9:0 (FUNC:8:1 (FUNC:7:2 (FUNC:6:3", "(ERROR 5))"), 5, 1);
        // The sum of these operands would wrap around.
        failsAt(refused("(SEQ", "(FUNC:2147483647:1 (FUNC:2147483646:2 (FUNC:2147483647:3", "(ERROR 5))"), 5, 1);
        failsAt(refused("(SEQ", "(FUNC:2147483647:2147483647 (FUNC:-2147483648:-2147483648", "(ERROR 5))"), 5, 1);
        for (int b = 0; b <= 3; b++) {
            new Script(DUE, "(FUNC:0:" + b + ")").givesKind(2);
            new Script(DUE, "(FUNC:" + (8 - b) + ":" + b + ")").givesKind(2);
        }
    }

    private static void namesFromZeroToSeven() {
        DUE.sentence("name if there is no VARIABLE of that name (0 to 7) in scope");
        String all = "(FUNC:0:3 (FUNC:3:3 (FUNC:5:3";
        refused(all, "v-1 v8 v9 v16 v-2147483648 v2147483647", "v0 v1 v2 v3 v4 v5 v6 v7)))");
        for (int n = 0; n <= 7; n++) {
            refused("", "v" + n, "(SEQ)");
            refused("(SEQ", "v" + n, ")");
            refused("(LOCAL:" + n + " 5", "v" + (n - 1) + " v" + (n + 1) + " v" + (7 - n), "v" + n + ")");
        }
    }

    private static void closeWithNoListOpen() {
        DUE.sentence("close is refused if no list is open");
        refused("", ")", "(ERROR 3)");
        refused("5", ")", "");
        refused("(ERROR 3)", ") )", "");
        refused("(SEQ".repeat(16) + ")".repeat(16), ")", "");
        CoroutineScript x = built("(SEQ (SEQ");
        x.drop();
        Script.refuse(DUE, x, ")");
    }

    private static void closeWithFewerParts() {
        DUE.sentence("close is refused if the innermost one has fewer parts than its kind needs");
        for (int op = 0; op < KINDS.length; op++) {
            String before = "(LOCAL:0 0 (IF 0 (" + KINDS[op];
            String after = ") (ERROR 5)))";
            for (int parts = 0; parts < LEAST[op]; parts++) {
                int missing = LEAST[op] - parts;
                failsAt(refused(before + " 1".repeat(parts), ")", "1 ".repeat(missing) + after), 5, 5 + LEAST[op]);
                failsAt(refused(before + " (SEQ)".repeat(parts), ")", "v0 ".repeat(missing) + after), 5, 5 + LEAST[op]);
            }
            CoroutineScript x = built(before + " v0".repeat(LEAST[op]) + after);
            runs(x, before + " with the parts that it needs", CoroutineScript.FAILED);
        }
    }

    private static void operandsNotUsed() {
        DUE.sentence("Operands that a kind does not use are ignored");
        for (int op = 0; op < KINDS.length; op++) {
            for (String operands : new String[] {":-1:-1", ":8:4", ":9:0", ":-2147483648:2147483647",
                ":2147483647:-2147483648"}) {
                if (op < 8 || op > 10) {
                    built("(" + KINDS[op] + operands + " 1".repeat(LEAST[op]) + ")");
                }
            }
        }
        for (String b : new String[] {"-1", "1", "4", "9", "-2147483648", "2147483647"}) {
            new Script(DUE, "(LOCAL:3:" + b + " 4 (SET:3:" + b + " (ADD v3 1)) v3)").gives(5).made(0, 0, 1);
            new Script(DUE, "(CALL:3:" + b + " (FUNC:1:1 (RETURN:" + b + " (SEQ:" + b + ":" + b + " v1))) 6)")
                    .gives(6).made(1, 0, 1);
            new Script(DUE, "(RESUME:0:" + b + " (CREATE:0:" + b + " (FUNC:1:1 v1)) 7)").gives(7).made(1, 1, 1);
        }
    }

    private static void operandsNotUsedMakeNoVariable() {
        DUE.sentence("Operands that a kind does not use are ignored");
        for (int op = 0; op < KINDS.length; op++) {
            if (op != 8 && op != 9 && op != 10) {
                Script.refuse(DUE, built("(" + KINDS[op] + ":3:2"), "v3 v4 (SET:3");
                Script.refuse(DUE, built("(SEQ (" + KINDS[op] + ":3:2" + " 1".repeat(LEAST[op])), "v3 v4 (SET:3");
            }
        }
        Script.refuse(DUE, built("(LOCAL:3:2 1"), "v4 v2");
        Script.refuse(DUE, built("(LOCAL:3 1 (SET:3:2 1)"), "v4 v2");
    }

    private static void dropTakesBackAll() {
        DUE.sentence("drop: Takes back all nodes");
        for (String text : new String[] {"", "5", "(SEQ)", "(SEQ", "(ADD 1", "(FUNC:0:3", "(LOCAL:0 1", "(SEQ".repeat(16),
            "(SEQ" + " 1".repeat(95), "(SEQ" + " 1".repeat(95) + ")"}) {
            CoroutineScript x = built(text);
            x.drop();
            runs(x, text + " and drop", CoroutineScript.INCOMPLETE);
            Script.refuse(DUE, x, ") v0 v1 v2 (SET:0");
            Script.build(DUE, x, "(LOCAL:0 3 (SEQ (ERROR v0)))");
            runs(x, text + ", drop and another program", CoroutineScript.FAILED);
            failsAt(x, 3, 3);
            x.drop();
            x.drop();
            Script.build(DUE, x, "(SEQ".repeat(15) + "(LOCAL:0" + " 1".repeat(79) + " 6");
            Script.refuse(DUE, x, ANY_NODE);
            Script.build(DUE, x, ")".repeat(16));
            runs(x, text + ", drop and 96 nodes in 16 lists", CoroutineScript.OK);
            DUE.is("value()", x.value(), 6);
        }
    }

    private static void dropKeepsTheAnswers() {
        DUE.sentence("Of the latest run that was not INCOMPLETE");
        for (String text : RUNS) {
            CoroutineScript x = hasRun(text);
            String before = Script.answers(x);
            x.drop();
            answersStay(x, before, text + " and drop");
            x.drop();
            answersStay(x, before, text + " and drop twice");
        }
    }
}
