/** Promises 1 and 7 to 15: a new object, run, and what is told of the latest run. */
public final class AnswersTest {
    private static final Due DUE = new Due();

    public static void main(String[] args) {
        beforeAnyRun();
        depthOfNewObject();
        fuelOfNewObject();
        incompleteRunChangesNothing();
        runAgain();
        buildingKeepsTheAnswers();
        kindAndValue();
        errorAndPlace();
        beats();
        printedAndOutput();
        made();
        eachRunStartsAnew();
        runAfterOneThatEndedInACoroutine();
        DUE.end();
    }

    private static Script script(String text) {
        return new Script(DUE, text);
    }

    private static void beforeAnyRun() {
        CoroutineScript x = new CoroutineScript(6, 200);
        DUE.is("kind() before any run", x.kind(), -1);
        DUE.is("value() before any run", x.value(), 0);
        DUE.is("error() before any run", x.error(), 0);
        DUE.is("place() before any run", x.place(), -1);
        DUE.is("beats() before any run", x.beats(), 0);
        DUE.is("printed() before any run", x.printed(), 0);
        DUE.is("output(0) before any run", x.output(0), Script.NOTHING);
        for (int what = 0; what < 3; what++) {
            DUE.is("made(" + what + ") before any run", x.made(what), 0);
        }
    }

    /** Calls itself until an error: the beats are the calls that the depth allows. */
    private static void depthOfNewObject() {
        String text = "(LOCAL:0 0 (SET:0 (FUNC:1:0 (CALL v0))) (CALL v0))";
        int[][] depths = {{Integer.MIN_VALUE, 1}, {-1, 1}, {0, 1}, {1, 1}, {2, 2}, {3, 3}, {4, 4}, {5, 5}, {6, 6}, {7, 6},
            {100, 6}, {Integer.MAX_VALUE, 6}};
        for (int[] depth : depths) {
            new Script(DUE, depth[0], 200, text).fails(4, 4).beats(depth[1]);
        }
    }

    private static void fuelOfNewObject() {
        int[][] fuels = {{Integer.MIN_VALUE, 1}, {-1, 1}, {0, 1}, {1, 1}, {2, 2}, {7, 7}, {199, 199}, {200, 200}, {201, 200},
            {Integer.MAX_VALUE, 200}};
        for (int[] fuel : fuels) {
            new Script(DUE, 6, fuel[0], "(WHILE 1)").endsWithFuel().beats(fuel[1]);
        }
    }

    private static void incompleteRunChangesNothing() {
        CoroutineScript x = new CoroutineScript(6, 200);
        Script.build(DUE, x, "(SEQ (WHILE 0) (LOCAL:0 (PRINT (CREATE (FUNC:0:0))) 5))");
        DUE.is("run()", x.run(), CoroutineScript.OK);
        x.drop();
        DUE.is("run() of nothing", x.run(), CoroutineScript.INCOMPLETE);
        answersOfThatRun(x);
        Script.build(DUE, x, "(ADD 1");
        DUE.is("run() of an open list", x.run(), CoroutineScript.INCOMPLETE);
        answersOfThatRun(x);
        Script.build(DUE, x, "2");
        DUE.is("run() of an open list with its parts", x.run(), CoroutineScript.INCOMPLETE);
        answersOfThatRun(x);
        DUE.is("close() after that", x.close(), true);
        DUE.is("run() of it complete", x.run(), CoroutineScript.OK);
        DUE.is("value() of it complete", x.value(), 3);
    }

    private static void answersOfThatRun(CoroutineScript x) {
        DUE.is("kind() of that run", x.kind(), 1);
        DUE.is("value() of that run", x.value(), 5);
        DUE.is("error() of that run", x.error(), 0);
        DUE.is("place() of that run", x.place(), -1);
        DUE.is("beats() of that run", x.beats(), 1);
        DUE.is("printed() of that run", x.printed(), 1);
        DUE.is("output(0) of that run", x.output(0), Script.COROUTINE);
        for (int what = 0; what < 3; what++) {
            DUE.is("made(" + what + ") of that run", x.made(what), 1);
        }
    }

    private static void runAgain() {
        CoroutineScript x = script("(LOCAL:0 3 (PRINT v0) (SET:0 (ADD v0 1)) v0)").object;
        for (int time = 0; time < 3; time++) {
            DUE.is("run() again", x.run(), CoroutineScript.OK);
            DUE.is("value() again", x.value(), 4);
            DUE.is("printed() again", x.printed(), 1);
            DUE.is("made(2) again", x.made(2), 1);
        }
    }

    private static void buildingKeepsTheAnswers() {
        Script s = script("(SEQ (PRINT 7) (ERROR 12))").fails(12, 3).prints(7);
        s.object.drop();
        Script.build(DUE, s.object, "(SEQ 1 2)");
        DUE.is("error() after another program was built", s.object.error(), 12);
        DUE.is("place() after another program was built", s.object.place(), 3);
        DUE.is("output(0) after another program was built", s.object.output(0), 7);
        DUE.is("run() of the other program", s.object.run(), CoroutineScript.OK);
        DUE.is("value() of the other program", s.object.value(), 2);
        DUE.is("error() of the other program", s.object.error(), 0);
        DUE.is("place() of the other program", s.object.place(), -1);
        DUE.is("printed() of the other program", s.object.printed(), 0);
        DUE.is("output(0) of the other program", s.object.output(0), Script.NOTHING);
    }

    private static void kindAndValue() {
        script("(SEQ)").givesKind(0);
        script("0").gives(0);
        script("-2147483648").gives(Integer.MIN_VALUE);
        script("2147483647").gives(Integer.MAX_VALUE);
        script("-1").gives(-1);
        script("(FUNC:0:0)").givesKind(2);
        script("(SEQ (FUNC:0:0) (FUNC:0:0))").givesKind(2);
        script("(CREATE (FUNC:0:0))").givesKind(3);
        script("(ADD 1 (SEQ))").fails(1, 0);
        script("(WHILE 1)").endsWithFuel();
    }

    private static void errorAndPlace() {
        script("(ERROR 5)").fails(5, 0);
        script("(ERROR 0)").fails(0, 0);
        script("(ERROR -7)").fails(-7, 0);
        script("(ERROR -2147483648)").fails(Integer.MIN_VALUE, 0);
        script("(ADD (ADD 1 2) (ADD 3 (SEQ)))").fails(1, 4);
        script("(ADD (SEQ) (ERROR 8))").fails(8, 2);
        script("(LOCAL:0 (FUNC:1:0 (SEQ 1 (ERROR 9))) (CALL v0))").fails(9, 4);
    }

    private static void beats() {
        script("(ADD 1 2)").gives(3).beats(0);
        script("(WHILE 0)").givesKind(0).beats(1);
        script("(CALL (FUNC:0:0))").givesKind(0).beats(1);
        script("(RESUME (CREATE (FUNC:0:0)) 1)").givesKind(0).beats(1);
        script("(SEQ (CALL (FUNC:0:0 (WHILE 0))) (ERROR 1))").fails(1, 5).beats(2);
    }

    private static void printedAndOutput() {
        script("(SEQ (PRINT 1) (PRINT (SEQ)) (PRINT (FUNC:0:0)) (PRINT (CREATE (FUNC:0:0))))")
                .givesKind(3).prints(1, Script.NIL, Script.FUNCTION, Script.COROUTINE);
        script("(SEQ (PRINT -1) (PRINT -2147483648) (PRINT 2147483647) (PRINT 0))")
                .gives(0).prints(-1, Integer.MIN_VALUE, Integer.MAX_VALUE, 0);
        script("(SEQ (PRINT 4) (ERROR 2) (PRINT 5))").fails(2, 3).prints(4);
        script("(WHILE 1 (PRINT 3))").endsWithFuel();
        outputOfMany(23);
        outputOfMany(24);
        outputOfMany(25);
        outputOfMany(100);
        for (int k : new int[] {-1, 1, 24, Integer.MIN_VALUE, Integer.MAX_VALUE}) {
            DUE.is("output(" + k + ") of one", script("(PRINT 1)").object.output(k), Script.NOTHING);
        }
    }

    private static void outputOfMany(int count) {
        Script s = script("(LOCAL:0 0 (WHILE (LESS v0 " + count + ") (PRINT v0) (SET:0 (ADD v0 1))))").givesKind(0);
        DUE.is("printed() of " + count, s.object.printed(), count);
        for (int k = 0; k < count + 2; k++) {
            DUE.is("output(" + k + ") of " + count, s.object.output(k), k < count && k < 24 ? k : Script.NOTHING);
        }
    }

    private static void made() {
        script("(SEQ)").made(0, 0, 0);
        script("(SEQ (FUNC:0:0) (FUNC:0:3))").made(2, 0, 0);
        script("(SEQ (LOCAL:0 1) (LOCAL:0 1) (LOCAL:1 1))").made(0, 0, 3);
        script("(CALL (FUNC:0:3) 1 2 3)").made(1, 0, 3);
        script("(SEQ (CREATE (FUNC:0:1)) (RESUME (CREATE (FUNC:0:1)) 5))").made(2, 2, 1);
        for (int what : new int[] {-1, 3, 4, Integer.MIN_VALUE, Integer.MAX_VALUE}) {
            DUE.is("made(" + what + ")", script("(LOCAL:0 1)").object.made(what), -1);
        }
    }

    private static void eachRunStartsAnew() {
        CoroutineScript x = new CoroutineScript(2, 5);
        Script.build(DUE, x, "(SEQ (PRINT 1) (RESUME (CREATE (FUNC:0:1 (ERROR 44))) 1)"
                + " (CALL (FUNC:1:1 (CALL (FUNC:2:0 (WHILE 1))))  2))");
        for (int time = 0; time < 2; time++) {
            DUE.is("run() that ends inside calls", x.run(), CoroutineScript.FUEL);
            DUE.is("beats() of it", x.beats(), 5);
            DUE.is("made(0) of it", x.made(0), 3);
            DUE.is("made(1) of it", x.made(1), 1);
            DUE.is("made(2) of it", x.made(2), 2);
        }
        x.drop();
        Script.build(DUE, x, "(CALL (FUNC:0:0 (CALL (FUNC:0:0 (FAULT)))))");
        DUE.is("run() after that", x.run(), CoroutineScript.OK);
        DUE.is("FAULT after that", x.value(), 0);
        DUE.is("kind() after that", x.kind(), 1);
        DUE.is("beats() after that", x.beats(), 2);
        DUE.is("printed() after that", x.printed(), 0);
        DUE.is("output(0) after that", x.output(0), Script.NOTHING);
        DUE.is("made(0) after that", x.made(0), 2);
        DUE.is("made(1) after that", x.made(1), 0);
        DUE.is("made(2) after that", x.made(2), 0);
    }

    /** The runs before end with calls in progress, in a coroutine that runs and in one that waits. */
    private static void runAfterOneThatEndedInACoroutine() {
        CoroutineScript x = new CoroutineScript(2, 6);
        Script.build(DUE, x, "(LOCAL:0 (FUNC:1:1 (CALL (FUNC:2:0 (YIELD v1) (WHILE 1)))) (LOCAL:3 (CREATE v0)"
                + " (PRINT (RESUME v3 4)) (PRINT (RESUME (CREATE v0) 5)) (RESUME v3 6)))");
        for (int time = 0; time < 3; time++) {
            DUE.is("run() that ends in a coroutine", x.run(), CoroutineScript.FUEL);
            DUE.is("kind() of it", x.kind(), -1);
            DUE.is("error() of it", x.error(), 0);
            DUE.is("place() of it", x.place(), -1);
            DUE.is("beats() of it", x.beats(), 6);
            DUE.is("printed() of it", x.printed(), 2);
            DUE.is("output(1) of it", x.output(1), 5);
        }
        x.drop();
        Script.build(DUE, x, "(YIELD 1)");
        DUE.is("run() outside of all coroutines again", x.run(), CoroutineScript.FAILED);
        DUE.is("error() outside of all coroutines again", x.error(), 6);
    }
}
