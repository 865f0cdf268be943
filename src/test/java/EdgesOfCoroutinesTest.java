/** The edges that the rows 15 to 19 of the kinds of lists name (promise 7): for each sentence a test of its own. */
public final class EdgesOfCoroutinesTest {
    private static final Due DUE = new Due();
    private static final String[] VALUES = {"(SEQ)", "0", "-2147483648", "(FUNC:0:0)", "(CREATE (FUNC:0:0))"};
    private static final long[] PRINTED = {Script.NIL, 0, Integer.MIN_VALUE, Script.FUNCTION, Script.COROUTINE};

    public static void main(String[] args) {
        createOfAFunction();
        createMakesANewCoroutine();
        resumeOfNoCoroutine();
        resumeOfADeadOne();
        resumeOfTheRunningOne();
        resumeOfOneThatWaitsForAnother();
        resumeOfOneThatWaits();
        resumeTheFirstTime();
        firstCallInProgress();
        resumeAgain();
        valueOfResume();
        endByAnError();
        yieldOutside();
        yieldInside();
        yieldInEachKind();
        yieldGoesToTheResumeThatLetItRun();
        statusOfNoCoroutine();
        status();
        faultIfThereWasNone();
        faultIsTheLatest();
        faultOfThisRun();
        DUE.end();
    }

    private static Script script(String text) {
        return new Script(DUE, text);
    }

    private static void createOfAFunction() {
        DUE.sentence("CREATE: a function with at most one parameter, else error 2");
        script("(CREATE (FUNC:0:0))").givesKind(3).made(1, 1, 0);
        script("(CREATE (FUNC:0:1))").givesKind(3).made(1, 1, 0);
        script("(CREATE (FUNC:7:1))").givesKind(3).made(1, 1, 0);
        script("(CREATE (FUNC:0:2))").fails(2, 0).made(1, 0, 0);
        script("(CREATE (FUNC:0:3))").fails(2, 0).made(1, 0, 0);
        for (String bad : new String[] {"0", "1", "-1", "(SEQ)"}) {
            script("(CREATE " + bad + ")").fails(2, 0).made(0, 0, 0);
            script("(LOCAL:0 (FUNC:0:0) (CREATE " + bad + "))").fails(2, 2).made(1, 0, 1);
        }
        script("(CREATE (CREATE (FUNC:0:0)))").fails(2, 0).made(1, 1, 0);
    }

    private static void createMakesANewCoroutine() {
        DUE.sentence("The value is a new coroutine that is to run it");
        script("(CREATE (FUNC:0:0 (PRINT 1) (ERROR 2)))").givesKind(3).beats(0).prints();
        script("(LOCAL:0 (FUNC:1:0 (YIELD 1) 2) (LOCAL:2 (CREATE v0) (LOCAL:3 (CREATE v0) (PRINT (RESUME v2 0))"
                + " (PRINT (RESUME v2 0)) (PRINT (RESUME v3 0)) (STATUS v3))))").gives(0).prints(1, 2, 1).made(1, 2, 3);
    }

    private static void resumeOfNoCoroutine() {
        DUE.sentence("RESUME: a coroutine, else error 2; and a value v");
        for (String bad : new String[] {"0", "1", "-1", "(SEQ)", "(FUNC:0:0)", "(FUNC:0:1)"}) {
            script("(RESUME " + bad + " 1)").fails(2, 0).beats(0);
            script("(LOCAL:0 (CREATE (FUNC:0:0)) (RESUME " + bad + " v0))").fails(2, 3).beats(0);
        }
        for (String value : VALUES) {
            script("(RESUME (CREATE (FUNC:0:0 6)) " + value + ")").gives(6).beats(1);
        }
    }

    private static void resumeOfADeadOne() {
        DUE.sentence("If it is DEAD: error 5");
        String dead = "(LOCAL:0 (CREATE (FUNC:1:0 %s)) (RESUME v0 1) (PRINT (STATUS v0)) (RESUME v0 (PRINT 3)))";
        script(String.format(dead, "")).fails(5, 9).beats(1).prints(2, 3);
        script(String.format(dead, "7")).fails(5, 10).beats(1).prints(2, 3);
        script(String.format(dead, "(RETURN 7)")).fails(5, 11).beats(1).prints(2, 3);
        script(String.format(dead, "(ERROR 7)")).fails(5, 11).beats(1).prints(2, 3);
        script(String.format(dead, "(ADD 1 (SEQ))")).fails(5, 12).beats(1).prints(2, 3);
        script("(LOCAL:0 (CREATE (FUNC:1:0 (YIELD 1))) (RESUME v0 1) (RESUME v0 1) (RESUME v0 1))").fails(5, 11).beats(2);
        // In a coroutine the error ends the one that resumes.
        script("(LOCAL:0 (CREATE (FUNC:1:0)) (RESUME v0 1) (LOCAL:2 (CREATE (FUNC:1:0 (RESUME v0 1) (PRINT 9)))"
                + " (PRINT (RESUME v2 1)) (PRINT (STATUS v2)) (FAULT)))").gives(5).prints(Script.NIL, 2).beats(2);
    }

    private static void resumeOfTheRunningOne() {
        DUE.sentence("or RUNNING (it is in progress itself ..): error 5");
        script("(LOCAL:0 0 (SET:0 (CREATE (FUNC:1:0 (RESUME v0 (PRINT 3)) (PRINT 9)))) (PRINT (RESUME v0 1))"
                + " (PRINT (STATUS v0)) (FAULT))").gives(5).prints(3, Script.NIL, 2).beats(1);
        script("(LOCAL:0 0 (SET:0 (CREATE (FUNC:1:0 (CALL (FUNC:1:0 (RESUME v0 1)))))) (RESUME v0 1) (FAULT))")
                .gives(5).beats(2);
        script("(LOCAL:0 0 (SET:0 (CREATE (FUNC:1:0 (YIELD 1) (RESUME v0 1)))) (RESUME v0 1) (RESUME v0 1) (FAULT))")
                .gives(5).beats(2);
    }

    private static void resumeOfOneThatWaitsForAnother() {
        DUE.sentence("or RUNNING (.. also while it waits for another one that it resumed): error 5");
        script("(LOCAL:0 0 (SET:0 (CREATE (FUNC:1:0 (PRINT (RESUME (CREATE (FUNC:1:0 (RESUME v0 1) (PRINT 9))) 2))"
                + " (PRINT (FAULT)) 6))) (RESUME v0 4))").gives(6).prints(Script.NIL, 5).beats(2);
        // Two between them.
        script("(LOCAL:0 0 (SET:0 (CREATE (FUNC:1:0 (RESUME (CREATE (FUNC:1:0 (RESUME (CREATE (FUNC:1:0 (RESUME v0 1)))"
                + " 2) (PRINT (FAULT)) 7)) 3)))) (RESUME v0 4))").gives(7).prints(5).beats(3);
    }

    private static void resumeOfOneThatWaits() {
        DUE.sentence("Else a beat and it runs");
        script("(LOCAL:0 (CREATE (FUNC:1:0 (YIELD 1) (YIELD 2) 3)) (PRINT (RESUME v0 0)) (PRINT (RESUME v0 0))"
                + " (RESUME v0 0))").gives(3).prints(1, 2).beats(3);
        // One that another coroutine has resumed, and that has yielded, waits: the other one may be running still or be dead.
        script("(LOCAL:0 (CREATE (FUNC:1:0 (YIELD 1) 2)) (PRINT (RESUME (CREATE (FUNC:1:0 (RESUME v0 0))) 0))"
                + " (RESUME v0 0))").gives(2).prints(1).beats(3);
        script("(LOCAL:0 (CREATE (FUNC:1:0 (YIELD 1) 2)) (RESUME (CREATE (FUNC:1:0 (PRINT (RESUME v0 0))"
                + " (RESUME v0 0))) 0))").gives(2).prints(1).beats(3);
    }

    private static void resumeTheFirstTime() {
        DUE.sentence("if it has not run before, its function is called with v as argument (if it has a parameter ..)");
        script("(RESUME (CREATE (FUNC:7:1 (ADD v7 1))) 4)").gives(5).beats(1).made(1, 1, 1);
        script("(RESUME (CREATE (FUNC:7:1)) 4)").givesKind(0).beats(1).made(1, 1, 1);
        script("(RESUME (CREATE (FUNC:7:0 6)) 4)").gives(6).beats(1).made(1, 1, 0);
        script("(LOCAL:7 8 (RESUME (CREATE (FUNC:7:0 v7)) 4))").gives(8).made(1, 1, 1);
        script("(LOCAL:7 8 (RESUME (CREATE (FUNC:7:1 (SET:7 (ADD v7 1)))) 4) v7)").gives(8).made(1, 1, 2);
    }

    private static void firstCallInProgress() {
        DUE.sentence("this is the first call in progress in the coroutine");
        new Script(DUE, 1, 200, "(RESUME (CREATE (FUNC:0:0 (RETURN 6) (PRINT 9))) 0)").gives(6).prints();
        new Script(DUE, 1, 200, "(SEQ (RESUME (CREATE (FUNC:0:0 (CALL (FUNC:0:0 6)))) 0) (FAULT))").gives(4).beats(1);
        new Script(DUE, 2, 200, "(RESUME (CREATE (FUNC:0:0 (CALL (FUNC:0:0 6)))) 0)").gives(6).beats(2);
        // Also when all calls that the depth allows are in progress where it is resumed.
        new Script(DUE, 1, 200, "(CALL (FUNC:0:0 (RESUME (CREATE (FUNC:0:0 (RESUME (CREATE (FUNC:0:0 6)) 0))) 0)))")
                .gives(6).beats(3);
    }

    private static void resumeAgain() {
        DUE.sentence("otherwise its YIELD gets the value v");
        script("(LOCAL:0 (CREATE (FUNC:1:1 (PRINT v1) (PRINT (YIELD 0)) (PRINT v1) (YIELD 0))) (RESUME v0 3)"
                + " (RESUME v0 4) (RESUME v0 5))").gives(5).prints(3, 4, 3).made(1, 1, 2);
        for (int i = 0; i < VALUES.length; i++) {
            script("(LOCAL:0 (CREATE (FUNC:1:1 (PRINT v1) (PRINT (YIELD 1)) 6)) (RESUME v0 " + VALUES[i] + ")"
                    + " (RESUME v0 " + VALUES[i] + "))").gives(6).prints(PRINTED[i], PRINTED[i]);
        }
        script("(LOCAL:0 (CREATE (FUNC:1:0 (YIELD 1))) (RESUME v0 9) (SAME (RESUME v0 v0) v0))").gives(1);
    }

    private static void valueOfResume() {
        DUE.sentence("The value is that with which it yielded, or that of its function (it is then dead)");
        script("(RESUME (CREATE (FUNC:0:0 (YIELD 7) 8)) 0)").gives(7);
        script("(RESUME (CREATE (FUNC:0:0 (YIELD (SEQ)) 8)) 0)").givesKind(0);
        script("(RESUME (CREATE (FUNC:0:0 7 8)) 0)").gives(8);
        script("(RESUME (CREATE (FUNC:0:0)) 0)").givesKind(0);
        script("(LOCAL:0 (CREATE (FUNC:0:0 (YIELD 7) 8)) (PRINT (RESUME v0 0)) (PRINT (STATUS v0)) (PRINT (RESUME v0 0))"
                + " (STATUS v0))").gives(2).prints(7, 0, 8);
    }

    private static void endByAnError() {
        DUE.sentence("or NIL if it ended by an error (it is then dead, and FAULT is the error's code)");
        String[][] errors = {{"(ERROR 44)", "44"}, {"(ADD 1 (SEQ))", "1"}, {"(CALL 1)", "2"}, {"(CALL (FUNC:0:0) 1)", "3"},
            {"(CALL (FUNC:0:0 (CALL (FUNC:0:0))))", "4"}, {"(CREATE (FUNC:0:2))", "2"}, {"(STATUS 1)", "2"},
            {"(RESUME 1 1)", "2"}, {"(RESUME v7 1)", "5"}, {"(ERROR 0)", "0"}, {"(ERROR -1)", "-1"}};
        for (String[] error : errors) {
            new Script(DUE, 2, 200, "(LOCAL:7 0 (SET:7 (CREATE (FUNC:0:0 " + error[0] + " (PRINT 9)))) (PRINT (RESUME v7 0))"
                    + " (PRINT (STATUS v7)) (FAULT))").gives(Integer.parseInt(error[1])).prints(Script.NIL, 2);
            new Script(DUE, 2, 200, "(LOCAL:7 0 (SET:7 (CREATE (FUNC:0:0 (YIELD 5) " + error[0] + " (PRINT 9))))"
                    + " (PRINT (RESUME v7 0)) (PRINT (FAULT)) (PRINT (RESUME v7 0)) (PRINT (STATUS v7)) (FAULT))")
                    .gives(Integer.parseInt(error[1])).prints(5, 0, Script.NIL, 2);
        }
    }

    private static void yieldOutside() {
        DUE.sentence("YIELD: outside of all coroutines: error 6");
        script("(YIELD 1)").fails(6, 0);
        script("(CALL (FUNC:0:0 (YIELD 1)))").fails(6, 2);
        script("(SEQ (RESUME (CREATE (FUNC:0:0)) 0) (YIELD 1))").fails(6, 5);
        script("(SEQ (RESUME (CREATE (FUNC:0:0 (YIELD 2))) 0) (YIELD 1))").fails(6, 7);
        // One function, outside and inside of a coroutine.
        script("(LOCAL:0 (FUNC:1:0 (YIELD 4)) (PRINT (RESUME (CREATE v0) 0)) (CALL v0))").fails(6, 2).prints(4);
    }

    private static void yieldInside() {
        DUE.sentence("Else the running coroutine waits .. and the value of the YIELD is that of the next RESUME's v");
        script("(LOCAL:0 (CREATE (FUNC:1:0 (CALL (FUNC:1:0 (PRINT (ADD 10 (YIELD 1))))))) (RESUME v0 3)"
                + " (PRINT (STATUS v0)) (RESUME v0 4))").gives(14).prints(0, 14).beats(3);
        script("(LOCAL:0 (CREATE (FUNC:1:0 (YIELD (YIELD (YIELD 1))))) (PRINT (RESUME v0 2)) (PRINT (RESUME v0 3))"
                + " (PRINT (RESUME v0 4)) (PRINT (RESUME v0 5)) (STATUS v0))").gives(2).prints(1, 3, 4, 5).beats(4);
    }

    private static void yieldInEachKind() {
        DUE.sentence("the value of the YIELD is that of the next RESUME's v");
        String[][] lists = {{"(ADD (YIELD 1) 10)", "15"}, {"(SUB 10 (YIELD 1))", "5"}, {"(MUL (YIELD 1) (YIELD 2))", "2"},
            {"(LESS 4 (YIELD 1))", "1"}, {"(SAME (YIELD 1) 5)", "1"}, {"(IF (YIELD 1) 7 8)", "7"}, {"(IF 1 (YIELD 1) 8)", "5"},
            {"(IF 0 7 (YIELD 1))", "5"}, {"(SEQ (YIELD 1))", "5"}, {"(SEQ (YIELD 1) 8)", "8"},
            {"(WHILE (YIELD 1) (RETURN 8))", "8"}, {"(WHILE 1 (RETURN (YIELD 1)))", "5"},
            {"(LOCAL:2 (YIELD 1) (ADD v2 1))", "6"}, {"(LOCAL:2 7 (YIELD 1))", "5"}, {"(LOCAL:2 7 (SET:2 (YIELD 1)) v2)", "5"},
            {"(CALL (FUNC:2:2 (SUB v2 v3)) (YIELD 1) 2)", "3"}, {"(CALL (FUNC:2:2 (SUB v2 v3)) 2 (YIELD 1))", "-3"},
            {"(CALL (FUNC:2:0 (YIELD 1)))", "5"}, {"(SEQ (RETURN (YIELD 1)) 8)", "5"}, {"(PRINT (YIELD 1))", "5"},
            {"(RESUME (CREATE (FUNC:2:1 v2)) (YIELD 1))", "5"}, {"(YIELD (YIELD 1))", "5"}};
        for (String[] list : lists) {
            // The first YIELD gets 5; where there are two, the second one gives its value.
            script("(LOCAL:0 (CREATE (FUNC:1:0 " + list[0] + ")) (PRINT (RESUME v0 9)) (RESUME v0 5))")
                    .gives(Integer.parseInt(list[1]));
        }
        script("(LOCAL:0 (CREATE (FUNC:1:0 (ERROR (YIELD 1)))) (RESUME v0 9) (RESUME v0 5) (FAULT))").gives(5);
        script("(LOCAL:0 (CREATE (FUNC:1:0 (STATUS (YIELD 1)))) (RESUME v0 9) (RESUME v0 v0))").gives(1);
        script("(LOCAL:0 (CREATE (FUNC:1:0 (CREATE (YIELD 1)))) (RESUME v0 9) (RESUME v0 (FUNC:1:0)))").givesKind(3);
        script("(LOCAL:0 (CREATE (FUNC:1:0 (CALL (YIELD 1)))) (RESUME v0 9) (RESUME v0 (FUNC:1:0 6)))").gives(6);
        script("(LOCAL:0 (CREATE (FUNC:1:0 (RESUME (YIELD 1) 7))) (RESUME v0 9) (RESUME v0 (CREATE (FUNC:1:1 v1))))").gives(7);
    }

    private static void yieldGoesToTheResumeThatLetItRun() {
        DUE.sentence("the value goes to the RESUME that let it run");
        script("(LOCAL:0 (CREATE (FUNC:1:0 (YIELD 1) (YIELD 2) (YIELD 3))) (PRINT (RESUME v0 0))"
                + " (PRINT (RESUME (CREATE (FUNC:1:0 (MUL 10 (RESUME v0 0)))) 0)) (RESUME v0 0))").gives(3).prints(1, 20);
        // The inner one yields to the outer one, not to the program.
        script("(LOCAL:0 (CREATE (FUNC:1:0 (ADD 5 (RESUME (CREATE (FUNC:1:0 (YIELD 1))) 0)))) (PRINT (RESUME v0 0))"
                + " (STATUS v0))").gives(2).prints(6);
    }

    private static void statusOfNoCoroutine() {
        DUE.sentence("STATUS: a coroutine, else error 2");
        for (String bad : new String[] {"0", "1", "-1", "(SEQ)", "(FUNC:0:0)"}) {
            script("(STATUS " + bad + ")").fails(2, 0);
            script("(LOCAL:0 (CREATE (FUNC:0:0)) (STATUS " + bad + "))").fails(2, 3);
        }
    }

    private static void status() {
        DUE.sentence("0 if it waits or has not run, 1 if it is running, 2 if it is dead");
        script("(STATUS (CREATE (FUNC:0:0)))").gives(0);
        script("(LOCAL:0 (CREATE (FUNC:1:0 (YIELD 1))) (RESUME v0 0) (STATUS v0))").gives(0);
        script("(LOCAL:0 0 (SET:0 (CREATE (FUNC:1:0 (STATUS v0)))) (RESUME v0 0))").gives(1);
        script("(LOCAL:0 0 (SET:0 (CREATE (FUNC:1:0 (YIELD 1) (STATUS v0)))) (RESUME v0 0) (RESUME v0 0))").gives(1);
        script("(LOCAL:0 0 (SET:0 (CREATE (FUNC:1:0 (RESUME (CREATE (FUNC:1:0 (STATUS v0))) 0)))) (RESUME v0 0))").gives(1);
        script("(LOCAL:0 (CREATE (FUNC:1:0)) (RESUME v0 0) (STATUS v0))").gives(2);
        script("(LOCAL:0 (CREATE (FUNC:1:0 (RETURN 5))) (RESUME v0 0) (STATUS v0))").gives(2);
        script("(LOCAL:0 (CREATE (FUNC:1:0 (ERROR 5))) (RESUME v0 0) (STATUS v0))").gives(2);
        // After an inner one has yielded to it, the outer one is running still; the inner one waits.
        script("(LOCAL:0 0 (LOCAL:1 (CREATE (FUNC:2:0 (YIELD 1))) (SET:0 (CREATE (FUNC:2:0 (RESUME v1 0)"
                + " (PRINT (STATUS v1)) (STATUS v0)))) (RESUME v0 0)))").gives(1).prints(0);
    }

    private static void faultIfThereWasNone() {
        DUE.sentence("FAULT: 0 if there was none");
        script("(FAULT)").gives(0);
        script("(SEQ (RESUME (CREATE (FUNC:0:0 5)) 0) (FAULT))").gives(0);
        script("(SEQ (RESUME (CREATE (FUNC:0:0 (YIELD 5) (ERROR 6))) 0) (FAULT))").gives(0);
        script("(RESUME (CREATE (FUNC:0:0 (FAULT))) 0)").gives(0);
    }

    private static void faultIsTheLatest() {
        DUE.sentence("the code of the latest error that ended a coroutine");
        String fails = "(RESUME (CREATE (FUNC:0:0 (ERROR %d))) 0)";
        script("(SEQ " + String.format(fails, 5) + String.format(fails, 6) + "(FAULT))").gives(6);
        script("(SEQ " + String.format(fails, 5) + String.format(fails, 0) + "(FAULT))").gives(0);
        script("(SEQ " + String.format(fails, 5) + "(RESUME (CREATE (FUNC:0:0 6)) 0) (FAULT))").gives(5);
        // An inner one that ends by an error, and then the outer one: the outer one's is the later.
        script("(SEQ (RESUME (CREATE (FUNC:0:0 " + String.format(fails, 5) + "(PRINT (FAULT)) (ERROR 6))) 0) (FAULT))")
                .gives(6).prints(5);
        // The code tells of a coroutine, not of the one that asks.
        script("(SEQ " + String.format(fails, 5) + "(RESUME (CREATE (FUNC:0:0 (FAULT))) 0))").gives(5);
    }

    private static void faultOfThisRun() {
        DUE.sentence("the latest error that ended a coroutine in this run");
        CoroutineScript x = script("(SEQ (PRINT (FAULT)) (RESUME (CREATE (FUNC:0:0 (ERROR 5))) 0) (FAULT))")
                .gives(5).prints(0).object;
        DUE.is("run() again", x.run(), CoroutineScript.OK);
        DUE.is("output(0) of the second run", x.output(0), 0);
        DUE.is("value() of the second run", x.value(), 5);
        // An error that ended the program ended no coroutine.
        x.drop();
        Script.build(DUE, x, "(ERROR 8)");
        DUE.is("run() that fails", x.run(), CoroutineScript.FAILED);
        x.drop();
        Script.build(DUE, x, "(FAULT)");
        DUE.is("run() after one that failed", x.run(), CoroutineScript.OK);
        DUE.is("FAULT after one that failed", x.value(), 0);
    }
}
