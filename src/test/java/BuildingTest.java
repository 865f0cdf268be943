/** Promises 2 to 6: open, num, name, close and drop, and what BUILDING and SCOPE say. */
public final class BuildingTest {
    private static final Due DUE = new Due();
    private static final int[] LEAST = {2, 2, 2, 2, 2, 3, 0, 1, 1, 1, 0, 1, 1, 1, 1, 1, 2, 1, 1, 0};
    private static final int[] MOST = {2, 2, 2, 2, 2, 3, 96, 96, 96, 1, 96, 4, 1, 1, 1, 1, 2, 1, 1, 0};
    private static final int SEQ = 6;
    private static final int LOCAL = 8;
    private static final int SET = 9;
    private static final int FUNC = 10;
    private static final int FAULT = 19;

    public static void main(String[] args) {
        nothingBuilt();
        completeProgramTakesNothing();
        partsOfEachKind();
        kindsThatAreNone();
        operandsOfLocal();
        operandsOfFunc();
        operandsOfSet();
        operandsNotUsedAreIgnored();
        scopeOfLocal();
        scopeOfFunc();
        scopeEndsWithItsList();
        namesOutside();
        nodesAtMost();
        openListsAtMost();
        refusedCallsChangeNothing();
        dropTakesBackAll();
        DUE.end();
    }

    private static CoroutineScript fresh() {
        return new CoroutineScript(6, 200);
    }

    private static void taken(String what, boolean answer) {
        DUE.is(what, answer, true);
    }

    private static void refused(String what, boolean answer) {
        DUE.is(what, answer, false);
    }

    private static CoroutineScript building(String text) {
        CoroutineScript x = fresh();
        Script.build(DUE, x, text);
        return x;
    }

    private static void nothingBuilt() {
        CoroutineScript x = fresh();
        refused("close() of nothing", x.close());
        refused("name(0) as the root", x.name(0));
        refused("SET as the root", x.open(SET, 0, 0));
        DUE.is("run() of nothing", x.run(), CoroutineScript.INCOMPLETE);
    }

    private static void completeProgramTakesNothing() {
        for (String text : new String[] {"7", "(SEQ)", "(ADD 1 2)", "(LOCAL:0 1 v0)"}) {
            CoroutineScript x = building(text);
            refused(text + ": num", x.num(1));
            refused(text + ": name", x.name(0));
            refused(text + ": open", x.open(SEQ, 0, 0));
            refused(text + ": close", x.close());
            DUE.is(text + ": run", x.run(), CoroutineScript.OK);
        }
    }

    private static void partsOfEachKind() {
        for (int op = 0; op <= FAULT; op++) {
            CoroutineScript x = building("(LOCAL:0 0");
            taken("open " + op, x.open(op, 0, 0));
            int room = Math.min(MOST[op], 93);
            for (int parts = 0; parts < room; parts++) {
                if (parts < LEAST[op]) {
                    refused("kind " + op + ": close with " + parts + " parts", x.close());
                }
                taken("kind " + op + ": part " + parts, parts % 2 == 0 ? x.num(1) : x.name(0));
            }
            refused("kind " + op + ": num as part " + room, x.num(1));
            refused("kind " + op + ": name as part " + room, x.name(0));
            refused("kind " + op + ": open as part " + room, x.open(SEQ, 0, 0));
            taken("kind " + op + ": close with " + room + " parts", x.close());
        }
        for (int op = 0; op <= FAULT; op++) {
            CoroutineScript x = building("(LOCAL:0 0");
            taken("open " + op, x.open(op, 0, 0));
            for (int parts = 0; parts < LEAST[op]; parts++) {
                taken("kind " + op + ": a list as part", x.open(SEQ, 0, 0));
                taken("kind " + op + ": its end", x.close());
            }
            taken("kind " + op + ": close with the parts needed", x.close());
        }
    }

    private static void kindsThatAreNone() {
        for (int op : new int[] {-1, 20, 21, 22, 100, Integer.MIN_VALUE, Integer.MAX_VALUE}) {
            refused("open(" + op + ") as the root", fresh().open(op, 0, 0));
            refused("open(" + op + ") as a part", building("(SEQ").open(op, 0, 0));
        }
    }

    private static void operandsOfLocal() {
        for (int a : new int[] {0, 1, 6, 7}) {
            taken("LOCAL " + a, fresh().open(LOCAL, a, 0));
        }
        for (int a : new int[] {-1, 8, Integer.MIN_VALUE, Integer.MAX_VALUE}) {
            refused("LOCAL " + a, fresh().open(LOCAL, a, 0));
        }
    }

    private static void operandsOfFunc() {
        for (int a = -2; a <= 10; a++) {
            for (int b = -2; b <= 5; b++) {
                boolean fits = b >= 0 && b <= 3 && a >= 0 && a + b <= 8;
                DUE.is("FUNC " + a + " " + b, fresh().open(FUNC, a, b), fits);
            }
        }
        refused("FUNC with a greatest a", fresh().open(FUNC, Integer.MAX_VALUE, 3));
        refused("FUNC with a least a", fresh().open(FUNC, Integer.MIN_VALUE, 3));
        refused("FUNC with a greatest b", fresh().open(FUNC, 0, Integer.MAX_VALUE));
        refused("FUNC with a least b", fresh().open(FUNC, 0, Integer.MIN_VALUE));
        refused("FUNC with both greatest", fresh().open(FUNC, Integer.MAX_VALUE, Integer.MAX_VALUE));
    }

    private static void operandsOfSet() {
        taken("SET 3 in scope", building("(LOCAL:3 0").open(SET, 3, 0));
        refused("SET 2 out of scope", building("(LOCAL:3 0").open(SET, 2, 0));
        refused("SET 3 in the first part of its LOCAL", building("(LOCAL:3").open(SET, 3, 0));
        taken("SET of a parameter", building("(FUNC:2:3").open(SET, 4, 0));
        refused("SET of what is no parameter", building("(FUNC:2:3").open(SET, 5, 0));
        refused("SET -1", building("(LOCAL:3 0").open(SET, -1, 0));
        refused("SET 8", building("(FUNC:5:3").open(SET, 8, 0));
        refused("SET of the greatest", building("(FUNC:5:3").open(SET, Integer.MAX_VALUE, 0));
    }

    private static void operandsNotUsedAreIgnored() {
        int far = Integer.MIN_VALUE;
        for (int op = 0; op <= FAULT; op++) {
            if (op != LOCAL && op != SET && op != FUNC) {
                taken("open(" + op + ") with any operands", fresh().open(op, far, far));
            }
        }
        taken("LOCAL with any b", fresh().open(LOCAL, 0, far));
        taken("SET with any b", building("(LOCAL:0 0").open(SET, 0, far));
    }

    private static void scopeOfLocal() {
        CoroutineScript x = building("(LOCAL:2");
        refused("the name in the first part", x.name(2));
        taken("a list as the first part", x.open(SEQ, 0, 0));
        refused("the name inside the first part", x.name(2));
        taken("a second list there", x.open(SEQ, 0, 0));
        refused("the name deep inside the first part", x.name(2));
        taken("close", x.close());
        taken("a leaf in the first part", x.num(1));
        refused("the name behind other parts inside the first part", x.name(2));
        taken("close", x.close());
        taken("the name in the second part", x.name(2));
        refused("another name", x.name(1));
        taken("a list as the third part", x.open(SEQ, 0, 0));
        taken("the name inside the third part", x.name(2));
        taken("a list inside a list there", x.open(SEQ, 0, 0));
        taken("the name deep inside the third part", x.name(2));
    }

    private static void scopeOfFunc() {
        CoroutineScript x = building("(LOCAL:0 0 (FUNC:3:2");
        taken("first parameter", x.name(3));
        taken("second parameter", x.name(4));
        refused("below the parameters", x.name(2));
        refused("above the parameters", x.name(5));
        taken("a variable around the FUNC", x.name(0));
        taken("a list inside", x.open(FUNC, 5, 0));
        taken("a parameter inside the inner function", x.name(3));
        refused("a FUNC without parameters makes none", x.name(5));
    }

    private static void scopeEndsWithItsList() {
        CoroutineScript x = building("(SEQ (LOCAL:1 0 v1) (FUNC:2:2 v2)");
        refused("a variable after its LOCAL", x.name(1));
        refused("a parameter after its FUNC", x.name(2));
        CoroutineScript y = building("(LOCAL:1 0 (LOCAL:1 1 v1)");
        taken("a variable after an inner one of its name", y.name(1));
    }

    private static void namesOutside() {
        for (int n : new int[] {-1, 8, 9, Integer.MIN_VALUE, Integer.MAX_VALUE}) {
            refused("name(" + n + ")", building("(FUNC:0:3 (FUNC:3:3 (FUNC:5:3").name(n));
        }
        for (int n = 0; n < 8; n++) {
            taken("name(" + n + ")", building("(FUNC:0:3 (FUNC:3:3 (FUNC:5:3").name(n));
        }
    }

    private static void nodesAtMost() {
        CoroutineScript x = building("(LOCAL:0");
        for (int node = 1; node < 95; node++) {
            taken("node " + node, x.num(node));
        }
        taken("node 95", x.name(0));
        refused("num as node 96", x.num(1));
        refused("name as node 96", x.name(0));
        refused("open as node 96", x.open(SEQ, 0, 0));
        taken("close with 96 nodes", x.close());
        DUE.is("run() with 96 nodes", x.run(), CoroutineScript.OK);
        DUE.is("value() with 96 nodes", x.value(), 1);
        CoroutineScript y = building("(LOCAL:0");
        for (int node = 1; node < 95; node++) {
            taken("node " + node, y.num(node));
        }
        taken("a list as node 95", y.open(SEQ, 0, 0));
        refused("num in it", y.num(1));
        taken("close it", y.close());
    }

    private static void openListsAtMost() {
        CoroutineScript x = fresh();
        for (int open = 0; open < 16; open++) {
            taken("open list " + open, x.open(SEQ, 0, 0));
        }
        refused("a 17th open list", x.open(SEQ, 0, 0));
        refused("a 17th open list without parts", x.open(FAULT, 0, 0));
        taken("a leaf in the 16th", x.num(5));
        taken("close the 16th", x.close());
        taken("another 16th", x.open(SEQ, 0, 0));
        refused("a 17th after that", x.open(SEQ, 0, 0));
        taken("a leaf in the new 16th", x.num(6));
        for (int open = 0; open < 16; open++) {
            taken("close list " + open, x.close());
        }
        refused("close with none open", x.close());
        DUE.is("run() of lists inside each other", x.run(), CoroutineScript.OK);
        DUE.is("value() of lists inside each other", x.value(), 6);
    }

    private static void refusedCallsChangeNothing() {
        CoroutineScript x = fresh();
        refused("close", x.close());
        taken("ADD", x.open(0, 0, 0));
        refused("name", x.name(0));
        refused("no kind", x.open(20, 0, 0));
        refused("close too early", x.close());
        taken("num", x.num(1));
        refused("LOCAL 8", x.open(LOCAL, 8, 0));
        refused("close too early again", x.close());
        DUE.is("run() in between", x.run(), CoroutineScript.INCOMPLETE);
        taken("ERROR", x.open(13, 0, 0));
        taken("num", x.num(9));
        refused("num too many", x.num(10));
        taken("close", x.close());
        refused("num too many", x.num(11));
        taken("close", x.close());
        refused("num after the end", x.num(12));
        DUE.is("run()", x.run(), CoroutineScript.FAILED);
        DUE.is("error()", x.error(), 9);
        DUE.is("place(), as refused nodes have no number", x.place(), 2);
    }

    private static void dropTakesBackAll() {
        CoroutineScript x = building("(LOCAL:0 1 (SEQ");
        x.drop();
        refused("close after drop", x.close());
        refused("name after drop", x.name(0));
        DUE.is("run() after drop", x.run(), CoroutineScript.INCOMPLETE);
        Script.build(DUE, x, "(ERROR 4)");
        DUE.is("run()", x.run(), CoroutineScript.FAILED);
        DUE.is("place() counts from 0 again", x.place(), 0);
        x.drop();
        DUE.is("run() after drop of a complete program", x.run(), CoroutineScript.INCOMPLETE);
        Script.build(DUE, x, "(SUB 4 (SEQ 1))");
        DUE.is("run() of another one", x.run(), CoroutineScript.OK);
        DUE.is("value() of another one", x.value(), 3);
        x.drop();
        x.drop();
        Script.build(DUE, x, "5");
        DUE.is("run() of a leaf", x.run(), CoroutineScript.OK);
    }
}
