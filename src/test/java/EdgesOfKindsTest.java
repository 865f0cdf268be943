/**
 * The edges that VALUES, BODY and the rows 0 to 14 of the kinds of lists name (promise 7): for each sentence a test of its
 * own.
 */
public final class EdgesOfKindsTest {
    private static final Due DUE = new Due();
    private static final int LOWEST = Integer.MIN_VALUE;
    private static final int HIGHEST = Integer.MAX_VALUE;
    private static final String COROUTINE = "(CREATE (FUNC:0:0))";
    private static final String[] NO_NUMBERS = {"(SEQ)", "(FUNC:0:0)", COROUTINE};
    private static final String[] FALSE = {"(SEQ)", "0"};
    private static final String[] TRUE = {"1", "-1", "2", "65536", "-2147483648", "2147483647", "(FUNC:0:0)", COROUTINE};

    public static void main(String[] args) {
        intsWrapAround();
        falseAndTrue();
        body();
        errorAfterTheParts();
        errorsOfArithmetic();
        less();
        same();
        ifTakesOnePart();
        whileBeginsWithABeat();
        whileEndsWhenFalse();
        local();
        set();
        funcMakesANewFunction();
        funcSeesTheVariablesThereAreNow();
        callOfNoFunction();
        callWithAnotherNumberOfArguments();
        callErrorsInTheirOrder();
        callsInProgressInTheProgram();
        callsInProgressInACoroutine();
        callsThatHaveEnded();
        returnFromTheInnermostCall();
        returnOutsideOfAllFunctions();
        errorRaisesItsNumber();
        print();
        DUE.end();
    }

    private static Script script(String text) {
        return new Script(DUE, text);
    }

    private static void intsWrapAround() {
        DUE.sentence("numbers (ints, which wrap around)");
        script("(ADD 2147483646 1)").gives(HIGHEST);
        script("(ADD 2147483647 1)").gives(LOWEST);
        script("(ADD -2147483647 -1)").gives(LOWEST);
        script("(ADD -2147483648 -1)").gives(HIGHEST);
        script("(ADD -2147483648 -2147483648)").gives(0);
        script("(ADD 2147483647 2147483647)").gives(-2);
        script("(SUB -2147483647 1)").gives(LOWEST);
        script("(SUB -2147483648 1)").gives(HIGHEST);
        script("(SUB 2147483646 -1)").gives(HIGHEST);
        script("(SUB 2147483647 -1)").gives(LOWEST);
        script("(SUB 0 -2147483648)").gives(LOWEST);
        script("(MUL 46340 46341)").gives(2147441940);
        script("(MUL 46341 46341)").gives(-2147479015);
        script("(MUL 65536 32768)").gives(LOWEST);
        script("(MUL 65536 65536)").gives(0);
        script("(MUL -2147483648 -1)").gives(LOWEST);
        script("(MUL 2147483647 2147483647)").gives(1);
        script("(SEQ (PRINT (ADD 2147483647 1)) (PRINT (SUB -2147483648 1)))").gives(HIGHEST).prints(LOWEST, HIGHEST);
        // What has wrapped around to 0 is the number 0.
        script("(IF (ADD -2147483648 -2147483648) 1 2)").gives(2);
        script("(SAME (MUL 65536 65536) 0)").gives(1);
    }

    private static void falseAndTrue() {
        DUE.sentence("NIL and 0 are FALSE, all other values are true");
        for (String value : FALSE) {
            script("(IF " + value + " 4 5)").gives(5);
            script("(WHILE " + value + " (RETURN 4))").givesKind(0);
        }
        for (String value : TRUE) {
            script("(IF " + value + " 4 5)").gives(4);
            script("(WHILE " + value + " (RETURN 4))").gives(4);
        }
    }

    private static void body() {
        DUE.sentence("BODY: parts evaluated in order, the value is the last one's, NIL if there are none");
        String[][] bodies = {{"(SEQ ", ")"}, {"(LOCAL:0 9 ", ")"}, {"(CALL (FUNC:0:0 ", "))"},
            {"(RESUME (CREATE (FUNC:0:0 ", ")) 9)"}, {"(RESUME (CREATE (FUNC:0:1 ", ")) 9)"}};
        for (String[] around : bodies) {
            script(around[0] + around[1]).givesKind(0);
            script(around[0] + "(PRINT 3)" + around[1]).gives(3).prints(3);
            script(around[0] + "(PRINT 3) (PRINT 4) 5" + around[1]).gives(5).prints(3, 4);
            script(around[0] + "3 (SEQ)" + around[1]).givesKind(0);
            script(around[0] + "(SEQ) 0" + around[1]).gives(0);
        }
    }

    private static void errorAfterTheParts() {
        DUE.sentence("its node is the list in which it is raised, after its parts were evaluated");
        script("(SEQ (ADD (PRINT (SEQ)) (PRINT 1)))").fails(1, 1).prints(Script.NIL, 1);
        script("(SEQ (LESS (PRINT (SEQ)) (PRINT (SEQ))))").fails(1, 1).prints(Script.NIL, Script.NIL);
        script("(SEQ (CALL (PRINT 4) (PRINT 1) (PRINT 2) (PRINT 3)))").fails(2, 1).prints(4, 1, 2, 3);
        script("(SEQ (CALL (FUNC:0:0) (PRINT 1) (PRINT 2) (PRINT 3)))").fails(3, 1).prints(1, 2, 3);
        new Script(DUE, 1, 200, "(CALL (FUNC:0:0 (CALL (FUNC:0:1) (PRINT 1))))").fails(4, 2).prints(1);
        script("(SEQ (ERROR (PRINT 9)))").fails(9, 1).prints(9);
        script("(SEQ (ERROR (PRINT (SEQ))))").fails(1, 1).prints(Script.NIL);
        script("(SEQ (CREATE (PRINT 9)))").fails(2, 1).prints(9);
        script("(SEQ (RESUME (PRINT 9) (PRINT 8)))").fails(2, 1).prints(9, 8);
        script("(LOCAL:0 (CREATE (FUNC:0:0)) (RESUME v0 0) (RESUME v0 (PRINT 8)))").fails(5, 6).prints(8);
        script("(SEQ (YIELD (PRINT 9)))").fails(6, 1).prints(9);
        script("(SEQ (STATUS (PRINT 9)))").fails(2, 1).prints(9);
        // An error in a part is raised there, and the list around it is not come to.
        script("(ADD (SEQ) (CALL 1))").fails(2, 2);
        script("(CALL 1 (ERROR 8))").fails(8, 2);
        script("(RESUME 1 (YIELD 8))").fails(6, 2);
        script("(STATUS (CREATE 8))").fails(2, 1);
        script("(ERROR (ADD 1 (SEQ)))").fails(1, 1);
    }

    private static void errorsOfArithmetic() {
        DUE.sentence("ADD, SUB, MUL, LESS: numbers, else error 1");
        for (String kind : new String[] {"ADD", "SUB", "MUL", "LESS"}) {
            script("(" + kind + " 0 0)").gives(0);
            for (String bad : NO_NUMBERS) {
                script("(" + kind + " " + bad + " 0)").fails(1, 0);
                script("(" + kind + " 0 " + bad + ")").fails(1, 0);
                script("(" + kind + " " + bad + " " + bad + ")").fails(1, 0);
            }
        }
    }

    private static void less() {
        DUE.sentence("LESS gives 1 or 0");
        script("(LESS 4 5)").gives(1);
        script("(LESS 5 5)").gives(0);
        script("(LESS 6 5)").gives(0);
        script("(LESS -1 0)").gives(1);
        script("(LESS 0 -1)").gives(0);
        script("(LESS -2147483648 2147483647)").gives(1);
        script("(LESS 2147483647 -2147483648)").gives(0);
        script("(LESS -2147483648 -2147483647)").gives(1);
        script("(LESS 2147483646 2147483647)").gives(1);
        script("(LESS -2147483648 -2147483648)").gives(0);
    }

    private static void same() {
        DUE.sentence("1 if both are NIL, or equal numbers, or the same function or coroutine; else 0");
        script("(SAME (SEQ) (SEQ))").gives(1);
        script("(SAME (SEQ) 0)").gives(0);
        script("(SAME 0 (SEQ))").gives(0);
        script("(SAME 0 0)").gives(1);
        script("(SAME -2147483648 -2147483648)").gives(1);
        script("(SAME 2147483647 -2147483648)").gives(0);
        script("(SAME 1 -1)").gives(0);
        script("(SAME 1 65537)").gives(0);
        script("(LOCAL:0 (FUNC:0:0) (SAME v0 v0))").gives(1);
        script("(LOCAL:0 (FUNC:0:0) (LOCAL:1 v0 (SAME v0 v1)))").gives(1);
        script("(LOCAL:0 (FUNC:1:0 (FUNC:1:0)) (SAME (CALL v0) (CALL v0)))").gives(0);
        script("(LOCAL:0 (CREATE (FUNC:0:0)) (LOCAL:1 v0 (SAME v1 v0)))").gives(1);
        script("(LOCAL:0 (FUNC:0:0) (SAME (CREATE v0) (CREATE v0)))").gives(0);
        // The first function and the first coroutine are no numbers and not each other.
        for (String other : new String[] {"(SEQ)", "0", "1", "(CREATE v0)"}) {
            script("(LOCAL:0 (FUNC:0:0) (SAME v0 " + other + "))").gives(0);
            script("(LOCAL:0 (FUNC:0:0) (LOCAL:0 (FUNC:0:0) (SAME v0 " + other + ")))").gives(0);
        }
        for (String other : new String[] {"(SEQ)", "0", "1", "v0"}) {
            script("(LOCAL:0 (FUNC:0:0) (SAME (CREATE v0) " + other + "))").gives(0);
            script("(LOCAL:0 (FUNC:0:0) (LOCAL:0 (FUNC:0:0) (SAME (CREATE v0) " + other + ")))").gives(0);
        }
    }

    private static void ifTakesOnePart() {
        DUE.sentence("the second part if the first is not false, else the third");
        script("(IF (PRINT 1) (PRINT 2) (PRINT 3))").gives(2).prints(1, 2);
        script("(IF (PRINT 0) (PRINT 2) (PRINT 3))").gives(3).prints(0, 3);
        script("(IF (PRINT (SEQ)) (PRINT 2) (PRINT 3))").gives(3).prints(Script.NIL, 3);
        script("(IF 1 0 3)").gives(0);
        script("(IF 1 (SEQ) 3)").givesKind(0);
        script("(IF 0 2 (SEQ))").givesKind(0);
        script("(SEQ (IF 1 2 (ERROR 3)) (IF 0 (ERROR 3) 4))").gives(4);
    }

    private static void whileBeginsWithABeat() {
        DUE.sentence("again and again a beat, then the first part");
        new Script(DUE, 6, 1, "(WHILE (PRINT 0))").givesKind(0).beats(1).prints(0);
        new Script(DUE, 6, 1, "(WHILE (PRINT 1))").endsWithFuel().beats(1).prints(1);
        new Script(DUE, 6, 1, "(SEQ (WHILE 0) (WHILE (PRINT 0)))").endsWithFuel().beats(1).prints();
        new Script(DUE, 6, 3, "(WHILE (PRINT 1) (PRINT 2) (PRINT 0))")
                .endsWithFuel().beats(3).prints(1, 2, 0, 1, 2, 0, 1, 2, 0);
        new Script(DUE, 6, 3, "(LOCAL:0 3 (WHILE (SET:0 (SUB v0 1))))").givesKind(0).beats(3);
        new Script(DUE, 6, 2, "(LOCAL:0 3 (WHILE (SET:0 (SUB v0 1))))").endsWithFuel().beats(2);
        // A WHILE that comes a second time begins anew.
        script("(LOCAL:0 2 (WHILE (SET:0 (SUB v0 1)) (WHILE (PRINT 0) 1) (WHILE (PRINT (SEQ)))))").givesKind(0).beats(4)
                .prints(0, Script.NIL);
    }

    private static void whileEndsWhenFalse() {
        DUE.sentence("if it is false the value is NIL; else the others");
        script("(WHILE 0)").givesKind(0).prints();
        script("(WHILE (SEQ) (PRINT 1))").givesKind(0).prints();
        script("(LOCAL:0 2 (WHILE v0 (PRINT v0) 0 (SEQ) (SET:0 (SUB v0 1))))").givesKind(0).beats(3).prints(2, 1);
        script("(LOCAL:0 (FUNC:0:0) (WHILE v0 (SET:0 (SEQ)) (PRINT 7)))").givesKind(0).beats(2).prints(7);
    }

    private static void local() {
        DUE.sentence("Each time that the list is evaluated there is another variable");
        script("(LOCAL:0 5)").givesKind(0).made(0, 0, 1);
        script("(LOCAL:0 0 (WHILE (LESS v0 3) (LOCAL:1 v0 (SET:0 (ADD v0 1)))))").givesKind(0).made(0, 0, 4);
        script("(LOCAL:0 (FUNC:1:0 (LOCAL:2 0 (FUNC:3:0 (SET:2 (ADD v2 1))))) (LOCAL:4 (CALL v0) (LOCAL:5 (CALL v0)"
                + " (PRINT (CALL v4)) (PRINT (CALL v4)) (PRINT (CALL v5)))))").gives(1).prints(1, 2, 1).made(3, 0, 5);
    }

    private static void set() {
        DUE.sentence("it gets the part's value, which is the value");
        script("(LOCAL:0 1 (SET:0 7))").gives(7);
        script("(LOCAL:0 1 (SET:0 7) v0)").gives(7);
        script("(LOCAL:0 1 (SET:0 (SEQ)))").givesKind(0);
        script("(LOCAL:0 1 (SET:0 (SEQ)) v0)").givesKind(0);
        script("(LOCAL:0 1 (LOCAL:7 2 (SET:0 (SET:7 (ADD v0 v7))) (SUB (MUL 10 v0) v7)))").gives(27);
        script("(LOCAL:0 1 (SET:0 (ADD (SET:0 4) v0)) v0)").gives(8).made(0, 0, 1);
    }

    private static void funcMakesANewFunction() {
        DUE.sentence("The value is a new function; its parts are the BODY of the function");
        script("(FUNC:0:0 (PRINT 1) (ERROR 2) (WHILE 1))").givesKind(2).beats(0).prints().made(1, 0, 0);
        script("(FUNC:0:3)").givesKind(2).made(1, 0, 0);
        script("(SEQ (FUNC:0:0 (FUNC:0:0)) (FUNC:0:0 (FUNC:0:0)))").givesKind(2).made(2, 0, 0);
        script("(LOCAL:0 (FUNC:1:0 (FUNC:1:0)) (CALL v0) (CALL v0))").givesKind(2).made(3, 0, 1);
    }

    private static void funcSeesTheVariablesThereAreNow() {
        DUE.sentence("which sees the variables around the list that there are now");
        // A variable lives on in the function when its LOCAL has ended, and is shared while it has not.
        script("(LOCAL:0 (LOCAL:1 5 (FUNC:2:0 (SET:1 (ADD v1 1)))) (CALL v0) (CALL v0))").gives(7);
        script("(LOCAL:1 5 (LOCAL:0 (FUNC:2:0 (SET:1 (ADD v1 1))) (SET:1 10) (CALL v0) (ADD v1 100)))").gives(111);
        // Each round has variables of its own: the function of the first round keeps that round's.
        script("(LOCAL:0 0 (LOCAL:1 0 (WHILE (LESS v1 3) (SET:1 (ADD v1 1)) (LOCAL:2 v1 (IF v0 0 (SET:0 (FUNC:3:0 v2)))))"
                + " (CALL v0)))").gives(1);
        // Not those that there are when it is called: here the calls of the function that made it.
        script("(LOCAL:0 (FUNC:1:1 (FUNC:2:0 v1)) (LOCAL:3 (CALL v0 5) (CALL v0 6) (CALL v3)))").gives(5);
    }

    private static void callOfNoFunction() {
        DUE.sentence("CALL: No function: error 2");
        for (String bad : new String[] {"0", "1", "-1", "(SEQ)", COROUTINE}) {
            for (int arguments = 0; arguments <= 3; arguments++) {
                script("(CALL " + bad + " 9".repeat(arguments) + ")").fails(2, 0).beats(0);
            }
        }
        // A number that is as great as that of a function is none.
        script("(LOCAL:0 (FUNC:0:0) (CALL 0))").fails(2, 2);
    }

    private static void callWithAnotherNumberOfArguments() {
        DUE.sentence("Another number of arguments than it has parameters: error 3");
        for (int parameters = 0; parameters <= 3; parameters++) {
            for (int arguments = 0; arguments <= 3; arguments++) {
                Script s = script("(CALL (FUNC:0:" + parameters + " (PRINT 4))" + " 9".repeat(arguments) + ")");
                if (parameters == arguments) {
                    s.gives(4).beats(1).made(1, 0, parameters).prints(4);
                } else {
                    s.fails(3, 0).beats(0).made(1, 0, 0).prints();
                }
            }
        }
    }

    private static void callErrorsInTheirOrder() {
        DUE.sentence("No function: error 2. Another number of arguments ..: error 3. .. as the depth allows: error 4. Else a beat");
        // The depth is used up in each of these, and in the second ones the fuel too.
        for (int fuel = 2; fuel >= 1; fuel--) {
            new Script(DUE, 1, fuel, "(CALL (FUNC:0:0 (CALL 7 1)))").fails(2, 2).beats(1);
            new Script(DUE, 1, fuel, "(CALL (FUNC:0:0 (CALL (FUNC:0:0) 1)))").fails(3, 2).beats(1);
            new Script(DUE, 1, fuel, "(CALL (FUNC:0:0 (CALL (FUNC:0:1))))").fails(3, 2).beats(1);
            new Script(DUE, 1, fuel, "(CALL (FUNC:0:0 (CALL (FUNC:0:1) 1)))").fails(4, 2).beats(1).made(2, 0, 0);
        }
        new Script(DUE, 2, 1, "(CALL (FUNC:0:0 (CALL (FUNC:0:1) 1)))").endsWithFuel().beats(1).made(2, 0, 0);
        new Script(DUE, 2, 2, "(CALL (FUNC:0:0 (CALL (FUNC:0:1) 1)))").givesKind(0).beats(2).made(2, 0, 1);
    }

    /** A function v0 that calls itself until so many of its calls are in progress, and then gives that number. */
    private static String nested(int calls, String start) {
        return "(LOCAL:0 0 (SET:0 (FUNC:1:1 (IF (LESS v1 " + calls + ") (CALL v0 (ADD v1 1)) v1))) " + start + ")";
    }

    private static void callsInProgressInTheProgram() {
        DUE.sentence("the program outside of all coroutines has as many calls in progress as the depth allows: error 4");
        for (int depth = 1; depth <= 6; depth++) {
            new Script(DUE, depth, 200, nested(depth, "(CALL v0 1)")).gives(depth).beats(depth).made(1, 0, 1 + depth);
            new Script(DUE, depth, 200, nested(depth + 1, "(CALL v0 1)")).fails(4, 8).beats(depth).made(1, 0, 1 + depth);
        }
    }

    private static void callsInProgressInACoroutine() {
        DUE.sentence("The coroutine has as many calls in progress as the depth allows: error 4");
        for (int depth = 1; depth <= 6; depth++) {
            new Script(DUE, depth, 200, nested(depth, "(PRINT (RESUME (CREATE v0) 1)) (FAULT)"))
                    .gives(0).prints(depth).beats(depth);
            new Script(DUE, depth, 200, nested(depth + 1, "(PRINT (RESUME (CREATE v0) 1)) (FAULT)"))
                    .gives(4).prints(Script.NIL)
                    .beats(depth).made(1, 1, 1 + depth);
            // The calls of the program, and those of a coroutine that waits, do not count in another coroutine.
            new Script(DUE, depth, 200, nested(depth, "(LOCAL:2 (CREATE (FUNC:3:0 (YIELD 1) (CALL (FUNC:3:0 8))))"
                    + " (RESUME v2 0) (CALL (FUNC:3:0 (RESUME (CREATE v0) 1))))")).gives(depth).beats(depth + 2);
        }
        // Its own calls are in progress still while it waits, and after.
        String calls = "(LOCAL:0 (CREATE (FUNC:1:0 (CALL (FUNC:1:0 (YIELD 1) (CALL (FUNC:1:0 8))))))"
                + " (RESUME v0 0) (PRINT (RESUME v0 0)) (FAULT))";
        new Script(DUE, 2, 200, calls).gives(4).prints(Script.NIL).beats(3);
        new Script(DUE, 3, 200, calls).gives(0).prints(8).beats(4);
    }

    private static void callsThatHaveEnded() {
        DUE.sentence("has as many calls in progress as the depth allows");
        String twice = " (CALL v0) (PRINT (CALL v0)))";
        new Script(DUE, 1, 200, "(LOCAL:0 (FUNC:1:0 3)" + twice).gives(3).prints(3).beats(2);
        new Script(DUE, 1, 200, "(LOCAL:0 (FUNC:1:0 (RETURN 3))" + twice).gives(3).prints(3).beats(2);
        new Script(DUE, 1, 200, "(LOCAL:0 (FUNC:1:0)" + twice).givesKind(0).prints(Script.NIL).beats(2);
        new Script(DUE, 1, 200, "(LOCAL:0 (FUNC:1:0 (RESUME (CREATE (FUNC:1:0 (ERROR 1))) 0) 3)" + twice)
                .gives(3).prints(3).beats(4);
        new Script(DUE, 1, 200, "(LOCAL:0 (FUNC:1:0 (RESUME (CREATE (FUNC:1:0 (YIELD 1))) 0))" + twice)
                .gives(1).prints(1).beats(4);
        // Arguments are evaluated before their call is in progress.
        new Script(DUE, 1, 200, "(LOCAL:0 (FUNC:1:1 (ADD v1 1)) (CALL v0 (CALL v0 (CALL v0 0))))").gives(3).beats(3);
    }

    private static void returnFromTheInnermostCall() {
        DUE.sentence("its value is the value of the innermost call in progress in this coroutine, which ends");
        script("(SEQ (PRINT (CALL (FUNC:0:0 (RETURN 3) (PRINT 9)))) 4)").gives(4).prints(3);
        script("(CALL (FUNC:0:0 (PRINT (CALL (FUNC:0:0 (RETURN 3)))) 4))").gives(4).prints(3);
        script("(CALL (FUNC:0:0 (CALL (FUNC:0:1 (PRINT 9)) (RETURN 3)) (PRINT 9)))").gives(3).prints();
        script("(CALL (FUNC:0:0 (WHILE 1 (IF 1 (LOCAL:0 (RETURN (SEQ)) 1) 2))))").givesKind(0).beats(2).made(1, 0, 0);
        script("(CALL (FUNC:0:0 (RETURN (RETURN 5))))").gives(5);
        // Calls that have ended, at whatever depth of lists, are in progress no more.
        for (int lists = 0; lists <= 5; lists++) {
            String ended = "(SEQ ".repeat(lists) + "(CALL (FUNC:0:0 2))" + ")".repeat(lists);
            script("(CALL (FUNC:0:0 " + ended + " (RETURN 3) (PRINT 9)))").gives(3).prints();
            script("(SEQ " + ended + " (RETURN 3) (PRINT 9))").gives(3).prints();
        }
        // The call that a coroutine has first is the innermost one there: it ends, and the calls around the RESUME do not.
        script("(CALL (FUNC:0:0 (LOCAL:1 (CREATE (FUNC:0:0 (SEQ (RETURN 3)) (PRINT 9))) (PRINT (RESUME v1 0))"
                + " (PRINT (STATUS v1)) 4)))").gives(4).prints(3, 2);
        script("(LOCAL:1 (CREATE (FUNC:0:0 (CALL (FUNC:0:0 (YIELD 1) (RETURN 2))) (RETURN 3))) (PRINT (RESUME v1 0))"
                + " (PRINT (RESUME v1 0)) (STATUS v1))").gives(2).prints(1, 3);
    }

    private static void returnOutsideOfAllFunctions() {
        DUE.sentence("if there is none (in the program outside of all functions), the program ends with it");
        script("(RETURN 3)").gives(3);
        script("(SEQ (SEQ (WHILE 1 (ADD 1 (RETURN 3)))) (PRINT 9))").gives(3).prints().beats(1);
        script("(LOCAL:0 (RETURN (SEQ)) (PRINT 9))").givesKind(0).prints().made(0, 0, 0);
        script("(RETURN (RETURN (FUNC:0:0)))").givesKind(2);
        script("(SEQ (CALL (FUNC:0:0 (RETURN 3))) (RETURN 4) (PRINT 9))").gives(4).prints();
        script("(SEQ (RESUME (CREATE (FUNC:0:0 (YIELD 3))) 0) (RETURN 4) (PRINT 9))").gives(4).prints();
        script("(SEQ (RESUME (CREATE (FUNC:0:0 (ERROR 3))) 0) (RETURN (FAULT)) (PRINT 9))").gives(3).prints();
    }

    private static void errorRaisesItsNumber() {
        DUE.sentence("ERROR: a number, else error 1: raises the error with that number as its code");
        for (int code : new int[] {LOWEST, -1, 0, 1, 7, 8, HIGHEST}) {
            script("(ERROR " + code + ")").fails(code, 0);
            script("(SEQ (RESUME (CREATE (FUNC:0:0 (ERROR " + code + "))) 1) (FAULT))").gives(code);
        }
        for (String bad : NO_NUMBERS) {
            script("(SEQ (ERROR " + bad + "))").fails(1, 1);
            script("(SEQ (RESUME (CREATE (FUNC:0:0 (ERROR " + bad + "))) 1) (FAULT))").gives(1);
        }
    }

    private static void print() {
        DUE.sentence("appends its value to the output; that is the value");
        script("(PRINT 0)").gives(0).prints(0);
        script("(PRINT (SEQ))").givesKind(0).prints(Script.NIL);
        script("(PRINT (FUNC:0:0))").givesKind(2).prints(Script.FUNCTION);
        script("(PRINT " + COROUTINE + ")").givesKind(3).prints(Script.COROUTINE);
        script("(ADD (PRINT (PRINT 2147483647)) (PRINT -2147483648))").gives(-1).prints(HIGHEST, HIGHEST, LOWEST);
    }
}
