/**
 * The edges that the limits of one run, A BEAT and the promises 1 and 7 to 15 name: for each sentence a test of its own,
 * with the last that is taken and the first that is not.
 */
public final class EdgesOfRunsTest {
    private static final Due DUE = new Due();
    private static final int REST = Script.REST;

    public static void main(String[] args) {
        functionsAtMost();
        coroutinesAtMost();
        variablesAtMostByLocal();
        variablesAtMostByCall();
        variablesAtMostByResume();
        limitOfCallInThePlaceOfItsBeat();
        limitOfResumeInThePlaceOfItsBeat();
        limitOfResumeInTheCoroutineThatResumes();
        limitsAreOfOneRun();
        beatOfEachKind();
        runEndsAtOnceWithFuel();
        fuelIsOfTheRun();
        depthOfANewObject();
        fuelOfANewObject();
        callsOfAnObject();
        runIncomplete();
        runAgain();
        runFailed();
        kind();
        value();
        errorAndPlace();
        beats();
        printed();
        output();
        outputIfThereIsNone();
        made();
        DUE.end();
    }

    private static Script script(String text) {
        return new Script(DUE, text);
    }

    private static Script script(int fuel, String text) {
        return new Script(DUE, 6, fuel, text);
    }

    private static String afterVariables(int variables, String rest) {
        return Script.afterVariables(variables, rest);
    }

    /** Makes so many functions, or what else the list makes, one in each round; the rest begins with node 12. */
    private static String afterRounds(int rounds, String list, String rest) {
        return "(LOCAL:7 0 (WHILE (LESS v7 " + rounds + ") " + list + " (SET:7 (ADD v7 1))) " + rest + ")";
    }

    private static void functionsAtMost() {
        DUE.sentence("In one run at most 40 functions: a FUNC that would exceed this raises error 7");
        String list = "(FUNC:0:0)";
        script(afterRounds(39, list, "(FUNC:0:0)")).givesKind(2).made(40, 0, 1);
        script(afterRounds(40, list, "5")).gives(5).made(40, 0, 1);
        script(afterRounds(40, list, "(PRINT 1) (FUNC:0:0 (PRINT 9))")).fails(7, 13).made(40, 0, 1).prints(1);
        script(afterRounds(41, list, "5")).fails(7, 6).made(40, 0, 1).beats(41);
        script(afterRounds(40, list, "(CALL (FUNC:0:0) (PRINT 9))")).fails(7, 12).made(40, 0, 1).prints();
        script(afterRounds(39, list, "(RESUME (CREATE (FUNC:0:0 (FUNC:0:0) (PRINT 9))) 0) (PRINT (FAULT)) 5"))
                .gives(5).prints(7)
                .made(40, 1, 1);
        // What is made without a FUNC is not touched by it.
        String rest = "(CALL v0 1) (LOCAL:1 2 (RESUME (CREATE v0) 1)) 6";
        script("(LOCAL:0 (FUNC:1:1) " + afterRounds(39, list, rest) + ")").gives(6).made(40, 1, 5);
    }

    private static void coroutinesAtMost() {
        DUE.sentence("In one run at most 6 coroutines: a CREATE that would exceed this raises error 7");
        String list = "(CREATE v0)";
        String function = "(LOCAL:0 (FUNC:1:0 (YIELD 1)) ";
        script(function + afterRounds(5, list, "(CREATE v0)") + ")").givesKind(3).made(1, 6, 2);
        script(function + afterRounds(6, list, "5") + ")").gives(5).made(1, 6, 2);
        script(function + afterRounds(6, list, "(CREATE (PRINT v0))") + ")")
                .fails(7, 16).made(1, 6, 2).prints(Script.FUNCTION);
        script(function + afterRounds(7, list, "5") + ")").fails(7, 10).made(1, 6, 2).beats(7);
        script(function + afterRounds(5, list, "(RESUME (CREATE (FUNC:1:0 (CREATE v0) (PRINT 9))) 0)"
                + " (PRINT (FAULT)) 5") + ")").gives(5).prints(7).made(2, 6, 2);
        // The dead ones count too, and those that wait.
        String dead = "(LOCAL:0 (FUNC:1:0 3) ";
        script(dead + afterRounds(6, "(RESUME (CREATE v0) 0)", "5") + ")").gives(5).made(1, 6, 2);
        script(dead + afterRounds(6, "(RESUME (CREATE v0) 0)", "(CREATE v0)") + ")").fails(7, 17).made(1, 6, 2);
        script(function + afterRounds(6, "(RESUME (CREATE v0) 0)", "(CREATE v0)") + ")").fails(7, 18).made(1, 6, 2);
        // What no coroutine can run is an error 2 all the same.
        script(function + afterRounds(6, list, "(CREATE (FUNC:1:2))") + ")").fails(2, 16).made(2, 6, 2);
        script(function + afterRounds(6, list, "(CREATE 5)") + ")").fails(2, 16).made(1, 6, 2);
    }

    private static void variablesAtMostByLocal() {
        DUE.sentence("at most 120 variables (parameters and LOCAL): a LOCAL that would exceed this raises error 7");
        script(afterVariables(119, "(LOCAL:0 3 v0)")).gives(3).made(0, 0, 120);
        script(afterVariables(120, "(SET:7 3)")).gives(3).made(0, 0, 120);
        // After its first part, whose value the variable would get, and before the others.
        script(afterVariables(120, "(LOCAL:0 (PRINT 3) (PRINT 9))")).fails(7, REST).made(0, 0, 120).prints(3);
        script(afterVariables(120, "(LOCAL:0 3)")).fails(7, REST).made(0, 0, 120);
        script(afterVariables(120, "(LOCAL:0 (ERROR 8) (PRINT 9))")).fails(8, REST + 1).made(0, 0, 120);
        script(afterVariables(119, "(LOCAL:0 3 (LOCAL:1 4 (PRINT 9)))")).fails(7, REST + 2).made(0, 0, 120).prints();
        script(afterVariables(118, "(LOCAL:0 (LOCAL:1 3 v1) v0)")).gives(3).made(0, 0, 120);
        script(afterVariables(119, "(LOCAL:0 (LOCAL:1 3 v1) v0)")).fails(7, REST).made(0, 0, 120);
        script(afterVariables(120, "(RESUME (CREATE (FUNC:0:0 (LOCAL:1 5 (PRINT 9)))) 2) (PRINT (FAULT)) 5"))
                .gives(5).prints(7)
                .made(1, 1, 120);
    }

    private static void variablesAtMostByCall() {
        DUE.sentence("a CALL that would exceed this raises error 7 (.. before any parameter is made)");
        for (int parameters = 1; parameters <= 3; parameters++) {
            String call = "(CALL (FUNC:0:" + parameters + " (PRINT 4))" + " 1".repeat(parameters) + ")";
            script(afterVariables(120 - parameters, call)).gives(4).made(1, 0, 120).beats(121 - parameters);
            for (int missing = 1; missing <= parameters; missing++) {
                int before = 120 - parameters + missing;
                script(afterVariables(before, call)).fails(7, REST).made(1, 0, before).beats(before).prints();
            }
        }
        script(afterVariables(120, "(CALL (FUNC:0:0 6))")).gives(6).made(1, 0, 120).beats(121);
        // None of the parameters was made: there is room for two variables still.
        script(afterVariables(118, "(RESUME (CREATE (FUNC:0:0 (CALL (FUNC:0:3) 1 2 3))) 0) (PRINT (FAULT)) (LOCAL:0 1"
                + " (LOCAL:1 2 v1))")).gives(2).prints(7).made(2, 1, 120);
        script(afterVariables(118, "(RESUME (CREATE (FUNC:0:0 (CALL (FUNC:0:3) 1 2 3))) 0) (LOCAL:0 1 (LOCAL:1 2"
                + " (LOCAL:2 3)))")).fails(7, REST + 13).made(2, 1, 120);
    }

    private static void variablesAtMostByResume() {
        DUE.sentence("(RESUME of one that has not run) that would exceed this raises error 7");
        script(afterVariables(119, "(RESUME (CREATE (FUNC:0:1 v0)) 4)")).gives(4).made(1, 1, 120).beats(120);
        script(afterVariables(120, "(RESUME (CREATE (FUNC:0:1 (PRINT 9))) (PRINT 4))"))
                .fails(7, REST).made(1, 1, 120).beats(120).prints(4);
        script(afterVariables(120, "(RESUME (CREATE (FUNC:0:0 6)) 4)")).gives(6).made(1, 1, 120).beats(121);
        // One that has run makes no variable when it goes on, also if its function has a parameter.
        script("(LOCAL:0 (CREATE (FUNC:1:1 (YIELD 1) (ADD v1 5))) (RESUME v0 3) (LOCAL:7 3 (WHILE (LESS v7 120)"
                + " (LOCAL:6 (SET:7 (ADD v7 1)))) (RESUME v0 4)))").gives(8).made(1, 1, 120).beats(120);
    }

    private static void limitOfCallInThePlaceOfItsBeat() {
        DUE.sentence("a CALL in the place of its beat");
        // No beat is used, and where the fuel is used up the error comes all the same.
        script(121, afterVariables(120, "(CALL (FUNC:0:1) 1)")).fails(7, REST).beats(120);
        script(120, afterVariables(120, "(CALL (FUNC:0:1) 1)")).fails(7, REST).beats(120);
        script(120, afterVariables(120, "(CALL (FUNC:0:0))")).endsWithFuel().beats(120);
        // The errors that come before the beat come before this one.
        script(afterVariables(120, "(CALL 4 1)")).fails(2, REST).beats(120);
        script(afterVariables(120, "(CALL (FUNC:0:1))")).fails(3, REST).beats(120);
        script(afterVariables(120, "(CALL (FUNC:0:1) 1 2)")).fails(3, REST).beats(120);
        new Script(DUE, 1, 200, afterVariables(120, "(CALL (FUNC:0:0 (CALL (FUNC:0:1) 1)))")).fails(4, REST + 2).beats(121);
        new Script(DUE, 2, 200, afterVariables(120, "(CALL (FUNC:0:0 (CALL (FUNC:0:1) 1)))")).fails(7, REST + 2).beats(121);
    }

    private static void limitOfResumeInThePlaceOfItsBeat() {
        DUE.sentence("a RESUME in the same way");
        script(121, afterVariables(120, "(RESUME (CREATE (FUNC:0:1)) 1)")).fails(7, REST).beats(120);
        script(120, afterVariables(120, "(RESUME (CREATE (FUNC:0:1)) 1)")).fails(7, REST).beats(120);
        script(120, afterVariables(120, "(RESUME (CREATE (FUNC:0:0)) 1)")).endsWithFuel().beats(120);
        // The errors that come before the beat come before this one.
        script(afterVariables(120, "(RESUME (FUNC:0:1) 1)")).fails(2, REST).beats(120);
        script(afterVariables(119, "(SET:7 (CREATE (FUNC:0:1))) (RESUME v7 1) (RESUME v7 1)"))
                .fails(5, REST + 6).made(1, 1, 120);
    }

    private static void limitOfResumeInTheCoroutineThatResumes() {
        DUE.sentence("in the coroutine that resumes");
        // The coroutine that resumes is dead by it; the other one has not run.
        script(afterVariables(118, "(LOCAL:5 (CREATE (FUNC:0:1 (PRINT 9))) (LOCAL:4 (CREATE (FUNC:0:0 (RESUME v5 1)"
                + " (PRINT 9))) (PRINT (RESUME v4 0)) (PRINT (FAULT)) (PRINT (STATUS v4)) (PRINT (STATUS v5))"
                + " (RESUME v5 1)))"))
                .fails(7, REST + 25).prints(Script.NIL, 7, 2, 0).made(2, 2, 120).beats(119);
    }

    private static void limitsAreOfOneRun() {
        DUE.sentence("In one run");
        String[] texts = {afterRounds(40, "(FUNC:0:0)", "5"), afterVariables(120, "5"),
            "(LOCAL:0 (FUNC:1:0) " + afterRounds(6, "(CREATE v0)", "5") + ")"};
        for (String text : texts) {
            CoroutineScript x = script(text).gives(5).object;
            String first = Script.answers(x);
            for (int time = 0; time < 3; time++) {
                DUE.is(text + ": run() again", x.run(), CoroutineScript.OK);
                DUE.is(text + ": that all answers are as before", Script.answers(x).equals(first), true);
            }
        }
    }

    private static void beatOfEachKind() {
        DUE.sentence("if the fuel of the run is used up the run ends at once, with FUEL; else one beat is used");
        String[] lists = {"(WHILE (PRINT 0))", "(CALL (FUNC:1:0 (PRINT 0)))", "(CALL (FUNC:1:1 (PRINT v1)) 0)",
            "(RESUME (CREATE (FUNC:1:0 (PRINT 0))) 0)", "(RESUME (CREATE (FUNC:1:1 (PRINT v1))) 0)", "(RESUME v0 0)"};
        for (String list : lists) {
            // One beat before the list, and one in it.
            String text = "(LOCAL:0 (CREATE (FUNC:1:0 (YIELD 0) (PRINT 0))) (RESUME v0 0) " + list + " (PRINT 5))";
            script(2, text).gives(5).beats(2).prints(0, 5);
            script(1, text).endsWithFuel().beats(1).prints();
        }
        // The other kinds need no fuel.
        script(1, "(LOCAL:0 (CREATE (FUNC:1:0 (YIELD (SEQ (IF (SAME (ADD 1 2) (SUB 5 2)) (PRINT (FAULT)) 1)))))"
                + " (RESUME v0 0) (RETURN (LOCAL:1 (STATUS v0) (SET:1 (LESS (MUL 2 3) 7)))))").gives(1).beats(1).prints(0);
    }

    private static void runEndsAtOnceWithFuel() {
        DUE.sentence("the run ends at once, with FUEL");
        script(1, "(SEQ (PRINT (CALL (FUNC:0:0 (WHILE (PRINT 9))))) (PRINT 9))").endsWithFuel().beats(1).prints();
        // In a coroutine too: it is no error that would end that coroutine alone.
        script(1, "(SEQ (PRINT (RESUME (CREATE (FUNC:0:0 (WHILE (PRINT 9)))) 0)) (PRINT 9))")
                .endsWithFuel().beats(1).prints();
        script(2, "(SEQ (PRINT (RESUME (CREATE (FUNC:0:0 (RESUME (CREATE (FUNC:0:0 (CALL (FUNC:0:0)))) 0))) 0)) (PRINT 9))")
                .endsWithFuel()
                .beats(2).prints();
        // What came to be before it is told.
        script(1, "(LOCAL:0 (PRINT 4) (WHILE 0) (CALL (FUNC:1:1) 1))").endsWithFuel().beats(1).prints(4).made(1, 0, 1);
        // The errors before the beat come although the fuel is used up.
        script(1, "(SEQ (WHILE 0) (CALL 1))").fails(2, 3).beats(1);
        script(1, "(SEQ (WHILE 0) (CALL (FUNC:0:0) 1))").fails(3, 3).beats(1);
        new Script(DUE, 1, 1, "(CALL (FUNC:0:0 (CALL (FUNC:0:0))))").fails(4, 2).beats(1);
        script(1, "(SEQ (WHILE 0) (RESUME 1 1))").fails(2, 3).beats(1);
        script(1, "(LOCAL:0 (CREATE (FUNC:1:0)) (RESUME v0 0) (RESUME v0 0))").fails(5, 6).beats(1);
    }

    private static void fuelIsOfTheRun() {
        DUE.sentence("the fuel of the run");
        // All coroutines use the same fuel, and each run has all of it.
        CoroutineScript x = script(4, "(SEQ (CALL (FUNC:0:0)) (RESUME (CREATE (FUNC:0:0 (WHILE 0))) 0) (WHILE 0) 5)")
                .gives(5).beats(4).object;
        for (int time = 0; time < 3; time++) {
            DUE.is("run() again", x.run(), CoroutineScript.OK);
            DUE.is("beats() again", x.beats(), 4);
        }
        script(3, "(SEQ (CALL (FUNC:0:0)) (RESUME (CREATE (FUNC:0:0 (WHILE 0))) 0) (WHILE 0) 5)").endsWithFuel().beats(3);
    }

    private static void depthOfANewObject() {
        DUE.sentence("depth: calls in progress at most, in each coroutine, below 1 becomes 1, above 6 becomes 6");
        int[][] depths = {{Integer.MIN_VALUE, 1}, {-1, 1}, {0, 1}, {1, 1}, {2, 2}, {3, 3}, {4, 4}, {5, 5}, {6, 6}, {7, 6},
            {8, 6}, {Integer.MAX_VALUE, 6}};
        String self = "(LOCAL:0 0 (SET:0 (FUNC:1:0 (CALL v0))) ";
        for (int[] depth : depths) {
            new Script(DUE, depth[0], 200, self + "(CALL v0))").fails(4, 4).beats(depth[1]);
            new Script(DUE, depth[0], 200, self + "(RESUME (CREATE v0) 0) (FAULT))").gives(4).beats(depth[1]);
        }
    }

    private static void fuelOfANewObject() {
        DUE.sentence("fuel: beats of one run(), below 1 becomes 1, above 200 becomes 200");
        int[][] fuels = {{Integer.MIN_VALUE, 1}, {-1, 1}, {0, 1}, {1, 1}, {2, 2}, {3, 3}, {199, 199}, {200, 200}, {201, 200},
            {202, 200}, {Integer.MAX_VALUE, 200}};
        for (int[] fuel : fuels) {
            script(fuel[0], "(WHILE 1)").endsWithFuel().beats(fuel[1]);
            // The last beat is there still: a loop with so many rounds ends.
            script(fuel[0], afterRounds(fuel[1] - 1, "0", "5")).gives(5).beats(fuel[1]);
            script(fuel[0], afterRounds(fuel[1], "0", "5")).endsWithFuel().beats(fuel[1]);
        }
    }

    private static void callsOfAnObject() {
        DUE.sentence("An object is used for at most 512 calls after it has been made");
        CoroutineScript x = new CoroutineScript(6, 200);
        for (int call = 1; call <= 504; call += 7) {
            Script.build(DUE, x, "(PRINT " + call + ")");
            DUE.is("run(), call " + (call + 3), x.run(), CoroutineScript.OK);
            DUE.is("value(), call " + (call + 4), x.value(), call);
            DUE.is("output(0), call " + (call + 5), x.output(0), call);
            x.drop();
        }
        for (int call = 505; call <= 511; call++) {
            DUE.is("run(), call " + call, x.run(), CoroutineScript.INCOMPLETE);
        }
        DUE.is("value(), call 512", x.value(), 498);
    }

    private static void runIncomplete() {
        DUE.sentence("If the program is not complete: INCOMPLETE, and nothing changes");
        for (String text : new String[] {"(PRINT 5)", "(LOCAL:0 (PRINT 5) (ERROR 6))", "(WHILE 1)", "(CREATE (FUNC:0:0))"}) {
            CoroutineScript x = script(text).object;
            String answers = Script.answers(x);
            x.drop();
            for (String part : new String[] {"", "(LOCAL:0", "(SEQ", "(PRINT 7)", ")", "(ERROR 8)"}) {
                Script.build(DUE, x, part);
                DUE.is("run() of what is not complete", x.run(), CoroutineScript.INCOMPLETE);
                DUE.is(text + ": that all answers stay after " + part, Script.answers(x).equals(answers), true);
            }
            Script.build(DUE, x, ")");
            DUE.is("run() of it complete", x.run(), CoroutineScript.FAILED);
            DUE.is("error() of it complete", x.error(), 8);
            DUE.is("place() of it complete", x.place(), 4);
            DUE.is("printed() of it complete", x.printed(), 1);
        }
        CoroutineScript fresh = new CoroutineScript(6, 200);
        DUE.is("run() of nothing", fresh.run(), CoroutineScript.INCOMPLETE);
        DUE.is("kind() after it", fresh.kind(), -1);
        DUE.is("error() after it", fresh.error(), 0);
        DUE.is("place() after it", fresh.place(), -1);
    }

    private static void runAgain() {
        DUE.sentence("runs it (it stays, and can be run again)");
        String[] texts = {"5", "(LOCAL:0 3 (PRINT v0) (SET:0 (ADD v0 1)))", "(WHILE (PRINT 1))",
            "(LOCAL:0 (PRINT 2) (CALL (FUNC:1:1 (CALL (FUNC:2:0 (ERROR v1)))) v0))",
            "(CALL (FUNC:0:0 (CALL (FUNC:0:0 (WHILE 1)))))",
            "(RESUME (CREATE (FUNC:0:0 (CALL (FUNC:0:0 (WHILE 1))))) 0)",
            "(RESUME (CREATE (FUNC:0:0 (CALL (FUNC:0:0 (YIELD 1))))) 0)",
            "(SEQ (PRINT (FAULT)) (RESUME (CREATE (FUNC:0:0 (CALL (FUNC:0:0 (ERROR 3))))) 0) (FAULT))"};
        for (String text : texts) {
            // All calls that the depth allows are in progress where the run ends.
            CoroutineScript x = new CoroutineScript(2, 200);
            Script.build(DUE, x, text);
            int first = x.run();
            String answers = Script.answers(x);
            Script.refuse(DUE, x, "1 (SEQ )");
            for (int time = 0; time < 3; time++) {
                DUE.is(text + ": run() again", x.run(), first);
                DUE.is(text + ": that all answers are as before", Script.answers(x).equals(answers), true);
            }
        }
    }

    private static void runFailed() {
        DUE.sentence("OK; FAILED if an error was raised outside of all coroutines; or FUEL");
        script("(ERROR 0)").fails(0, 0);
        script("(CALL (FUNC:0:0 (ERROR 3)))").fails(3, 2);
        script("(SEQ (RESUME (CREATE (FUNC:0:0 (ERROR 3))) 0) 4)").gives(4);
        script("(RESUME (CREATE (FUNC:0:0 (ERROR 3))) 0)").givesKind(0);
        script("(SEQ (RESUME (CREATE (FUNC:0:0 (ERROR 3))) 0) (ERROR 4))").fails(4, 7);
        script("(WHILE 1)").endsWithFuel();
        script("(RESUME (CREATE (FUNC:0:0 (WHILE 1))) 0)").endsWithFuel();
    }

    /** One object, with programs that end in each way after each other: the answers are those of the latest run alone. */
    private static CoroutineScript inTurn(CoroutineScript x, String text, int answer) {
        x.drop();
        Script.build(DUE, x, text);
        DUE.is(text + ": run()", x.run(), answer);
        return x;
    }

    private static void kind() {
        DUE.sentence("its value's kind if it was OK: 0 NIL, 1 number, 2 function, 3 coroutine; -1 else");
        CoroutineScript x = new CoroutineScript(6, 200);
        DUE.is("kind() before any run", x.kind(), -1);
        DUE.is("kind() NIL", inTurn(x, "(SEQ)", 0).kind(), 0);
        DUE.is("kind() number", inTurn(x, "0", 0).kind(), 1);
        DUE.is("kind() failed", inTurn(x, "(ERROR 0)", 1).kind(), -1);
        DUE.is("kind() least number", inTurn(x, "-2147483648", 0).kind(), 1);
        DUE.is("kind() greatest number", inTurn(x, "2147483647", 0).kind(), 1);
        DUE.is("kind() fuel", inTurn(x, "(WHILE 1)", 2).kind(), -1);
        DUE.is("kind() -1", inTurn(x, "-1", 0).kind(), 1);
        DUE.is("kind() function", inTurn(x, "(FUNC:0:0)", 0).kind(), 2);
        DUE.is("kind() coroutine", inTurn(x, "(CREATE (FUNC:0:0))", 0).kind(), 3);
    }

    private static void value() {
        DUE.sentence("If that kind is 1 the number, else 0");
        CoroutineScript x = new CoroutineScript(6, 200);
        DUE.is("value() before any run", x.value(), 0);
        for (int number : new int[] {Integer.MIN_VALUE, -1, 1, 0, Integer.MAX_VALUE}) {
            DUE.is("value() number", inTurn(x, "" + number, 0).value(), number);
        }
        String two = "(SEQ (FUNC:0:0) (CREATE (FUNC:0:0)) %s)";
        DUE.is("value() NIL", inTurn(x, "(SEQ 5 (SEQ))", 0).value(), 0);
        DUE.is("value() function", inTurn(x, String.format(two, "(FUNC:0:0)"), 0).value(), 0);
        DUE.is("value() coroutine", inTurn(x, String.format(two, "(CREATE (FUNC:0:0))"), 0).value(), 0);
        DUE.is("value() failed", inTurn(x, "(SEQ 5 (ERROR 6))", 1).value(), 0);
        DUE.is("value() fuel", inTurn(x, "(SEQ 5 (WHILE 1))", 2).value(), 0);
    }

    private static void errorAndPlace() {
        DUE.sentence("The error's code if that run FAILED, else 0 .. The number of the node at which that error was raised,"
                + " -1 if it did not fail");
        CoroutineScript x = new CoroutineScript(6, 200);
        String[][] texts = {{"(ERROR 5)", "5", "0"}, {"(SEQ)", "0", "-1"}, {"(ERROR 0)", "0", "0"}, {"(WHILE 1)", "0", "-1"},
            {"(SEQ 1 (ERROR -2147483648))", "-2147483648", "2"}, {"(WHILE 2)", "0", "-1"},
            {"(RESUME (CREATE (FUNC:0:0 (ERROR 5))) 0)", "0", "-1"},
            {"(SEQ (SEQ) (ERROR 2147483647))", "2147483647", "2"}, {"(WHILE 0)", "0", "-1"},
            {"(SEQ" + " 1".repeat(93) + " (ERROR 5))", "5", "94"}, {"7", "0", "-1"}};
        DUE.is("error() before any run", x.error(), 0);
        DUE.is("place() before any run", x.place(), -1);
        for (String[] text : texts) {
            x.drop();
            Script.build(DUE, x, text[0]);
            x.run();
            DUE.is(text[0] + ": error()", x.error(), Integer.parseInt(text[1]));
            DUE.is(text[0] + ": place()", x.place(), Integer.parseInt(text[2]));
        }
    }

    private static void beats() {
        DUE.sentence("Beats used by that run");
        CoroutineScript x = new CoroutineScript(6, 3);
        DUE.is("beats() before any run", x.beats(), 0);
        DUE.is("beats() fuel", inTurn(x, "(WHILE 1)", 2).beats(), 3);
        DUE.is("beats() of one that uses none", inTurn(x, "(SEQ)", 0).beats(), 0);
        DUE.is("beats() of one that uses all", inTurn(x, "(SEQ (WHILE 0) (WHILE 0) (WHILE 0))", 0).beats(), 3);
        DUE.is("beats() failed", inTurn(x, "(SEQ (WHILE 0) (ERROR 9))", 1).beats(), 1);
    }

    private static void printed() {
        DUE.sentence("How many values it printed");
        CoroutineScript x = new CoroutineScript(6, 200);
        DUE.is("printed() before any run", x.printed(), 0);
        for (int count : new int[] {25, 0, 1, 24, 23, 199}) {
            DUE.is("printed()", inTurn(x, afterRounds(count, "(PRINT 7)", "5"), 0).printed(), count);
        }
        DUE.is("printed() fuel", inTurn(x, "(WHILE 1 (PRINT 1) (PRINT 2))", 2).printed(), 400);
        DUE.is("printed() failed", inTurn(x, "(SEQ (PRINT 1) (PRINT 2) (ERROR 3))", 1).printed(), 2);
        String inside = "(RESUME (CREATE (FUNC:0:0 (PRINT 1) (PRINT 2) (ERROR 3))) 0)";
        DUE.is("printed() in a coroutine", inTurn(x, inside, 0).printed(), 2);
    }

    private static void output() {
        DUE.sentence("The k-th of them, counted from 0, if it is kept"
                + " (the first 24 are): a number as it is; NIL as .., a function as .., a coroutine as ..");
        for (int count : new int[] {1, 23, 24, 25, 150}) {
            CoroutineScript x = script(afterRounds(count, "(PRINT (SUB v7 3))", "5")).gives(5).object;
            for (int k = 0; k < count + 2; k++) {
                DUE.is("output(" + k + ") of " + count, x.output(k), k < count && k < 24 ? k - 3 : -4294967296L);
            }
        }
        String[][] values = {{"-2147483648", "-2147483648"}, {"2147483647", "2147483647"}, {"-1", "-1"}, {"0", "0"}, {"1", "1"},
            {"(SEQ)", "4294967296"}, {"(FUNC:0:0)", "4294967297"}, {"(CREATE (FUNC:0:0))", "4294967298"}};
        for (String[] value : values) {
            DUE.is("output(0)", script("(PRINT " + value[0] + ")").object.output(0), Long.parseLong(value[1]));
            // The last that is kept.
            String text = afterRounds(23, "(PRINT 9)", "(PRINT " + value[0] + ") (PRINT 8)");
            DUE.is("output(23)", script(text).object.output(23), Long.parseLong(value[1]));
            DUE.is("output(24)", script(text).object.output(24), -4294967296L);
        }
        // What can be told of one function or coroutine is told of another.
        script("(SEQ (PRINT (FUNC:0:0)) (PRINT (FUNC:0:0)) (PRINT (CREATE (FUNC:0:0))) (PRINT (CREATE (FUNC:0:0))))")
                .prints(4294967297L, 4294967297L, 4294967298L, 4294967298L);
    }

    private static void outputIfThereIsNone() {
        DUE.sentence("-4294967296 if there is none");
        CoroutineScript x = new CoroutineScript(6, 200);
        int[] places = {Integer.MIN_VALUE, -1, 0, 1, 23, 24, 25, Integer.MAX_VALUE};
        for (int k : places) {
            DUE.is("output(" + k + ") before any run", x.output(k), -4294967296L);
        }
        inTurn(x, afterRounds(30, "(PRINT 9)", "5"), 0);
        DUE.is("output(23) of 30", x.output(23), 9);
        inTurn(x, "(PRINT 8)", 0);
        for (int k : places) {
            DUE.is("output(" + k + ") of one that printed once", x.output(k), k == 0 ? 8 : -4294967296L);
        }
        inTurn(x, "(SEQ)", 0);
        for (int k : places) {
            DUE.is("output(" + k + ") of one that printed nothing", x.output(k), -4294967296L);
        }
    }

    private static void made() {
        DUE.sentence("How many functions (0), coroutines (1), variables (2) came to be in it; -1 for any other what");
        CoroutineScript x = new CoroutineScript(6, 200);
        int[] others = {Integer.MIN_VALUE, -2, -1, 3, 4, Integer.MAX_VALUE};
        for (int what : others) {
            DUE.is("made(" + what + ") before any run", x.made(what), -1);
        }
        DUE.is("made(0) before any run", x.made(0), 0);
        DUE.is("made(1) before any run", x.made(1), 0);
        DUE.is("made(2) before any run", x.made(2), 0);
        inTurn(x, "(CALL (FUNC:0:3 (CREATE (FUNC:0:0)) (CREATE (FUNC:0:0)) (LOCAL:0 1)) 7 8 9)", 0);
        for (int what : others) {
            DUE.is("made(" + what + ")", x.made(what), -1);
        }
        DUE.is("made(0)", x.made(0), 3);
        DUE.is("made(1)", x.made(1), 2);
        DUE.is("made(2)", x.made(2), 4);
        inTurn(x, "(SEQ)", 0);
        DUE.is("made(0) of none", x.made(0), 0);
        DUE.is("made(1) of none", x.made(1), 0);
        DUE.is("made(2) of none", x.made(2), 0);
        // Those that came to be before the run ended otherwise than with OK are told too.
        script("(LOCAL:0 (CREATE (FUNC:1:1 (ERROR 4))) (RESUME v0 1) (ERROR 5))").fails(5, 8).made(1, 1, 2);
        script("(LOCAL:0 (CREATE (FUNC:1:1 (WHILE 1))) (RESUME v0 1))").endsWithFuel().made(1, 1, 2);
    }
}
