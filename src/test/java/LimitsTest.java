/** Promises 7, 12 and 15: beats and fuel, and how many functions, coroutines and variables one run can make. */
public final class LimitsTest {
    private static final Due DUE = new Due();
    private static final int REST = Script.REST;

    public static void main(String[] args) {
        fuelIsLookedAtFirst();
        errorsBeforeTheBeat();
        fuelInsideCoroutines();
        functionsAtMost();
        coroutinesAtMost();
        variablesAtMostByLocal();
        variablesAtMostByCall();
        variablesAtMostByResume();
        limitInThePlaceOfTheBeat();
        limitsInsideCoroutines();
        deepestLists();
        DUE.end();
    }

    private static Script script(String text) {
        return new Script(DUE, text);
    }

    private static String afterVariables(int variables, String rest) {
        return Script.afterVariables(variables, rest);
    }

    private static void fuelIsLookedAtFirst() {
        new Script(DUE, 6, 2, "(SEQ (WHILE 0) (WHILE 0))").givesKind(0).beats(2);
        new Script(DUE, 6, 2, "(SEQ (WHILE 0) (WHILE 0) (WHILE (PRINT 0)))").endsWithFuel().beats(2).prints();
        new Script(DUE, 6, 1, "(SEQ (WHILE 0) (CALL (PRINT (FUNC:0:1 (PRINT 1))) (PRINT 2)))")
                .endsWithFuel().beats(1).prints(Script.FUNCTION, 2).made(1, 0, 0);
        new Script(DUE, 6, 1, "(SEQ (WHILE 0) (RESUME (CREATE (FUNC:0:1 (PRINT 1))) (PRINT 2)))")
                .endsWithFuel().beats(1).prints(2).made(1, 1, 0);
        new Script(DUE, 6, 1, "(SEQ (WHILE 0) (ADD 1 1))").gives(2).beats(1);
    }

    private static void errorsBeforeTheBeat() {
        new Script(DUE, 6, 1, "(SEQ (WHILE 0) (CALL 1))").fails(2, 3).beats(1);
        new Script(DUE, 6, 1, "(SEQ (WHILE 0) (CALL (FUNC:0:0) 1))").fails(3, 3).beats(1);
        new Script(DUE, 1, 1, "(CALL (FUNC:0:0 (CALL (FUNC:0:0))))").fails(4, 2).beats(1);
        new Script(DUE, 6, 1, "(LOCAL:0 (CREATE (FUNC:1:0)) (RESUME v0 0) (RESUME v0 0))").fails(5, 6).beats(1);
        new Script(DUE, 6, 1, "(SEQ (WHILE 0) (RESUME 1 1))").fails(2, 3).beats(1);
    }

    private static void fuelInsideCoroutines() {
        new Script(DUE, 6, 5, "(SEQ (PRINT (RESUME (CREATE (FUNC:0:0 (WHILE 1))) 0)) 3)").endsWithFuel().beats(5).prints();
        new Script(DUE, 6, 1, "(SEQ (RESUME (CREATE (FUNC:0:0 (CALL (FUNC:0:0)))) 0) 3)").endsWithFuel().beats(1);
        // A RESUME of one that waits takes a beat too.
        new Script(DUE, 6, 1, "(LOCAL:0 (CREATE (FUNC:1:0 (YIELD 1) (PRINT 2))) (RESUME v0 0) (RESUME v0 0))")
                .endsWithFuel().beats(1).prints();
    }

    private static void functionsAtMost() {
        String text = "(LOCAL:0 0 (WHILE (LESS v0 %d) (FUNC:0:0) (SET:0 (ADD v0 1))) 5)";
        script(String.format(text, 39)).gives(5).made(39, 0, 1);
        script(String.format(text, 40)).gives(5).made(40, 0, 1);
        script(String.format(text, 41)).fails(7, 6).made(40, 0, 1).beats(41);
        script(String.format(text, 40).replace(" 5)", " (CALL (PRINT (FUNC:0:0))))")).fails(7, 13).prints();
    }

    private static void coroutinesAtMost() {
        String text = "(LOCAL:0 0 (LOCAL:1 (FUNC:2:0 4) (WHILE (LESS v0 %d) (CREATE v1) (SET:0 (ADD v0 1))) 5))";
        script(String.format(text, 5)).gives(5).made(1, 5, 2);
        script(String.format(text, 6)).gives(5).made(1, 6, 2);
        script(String.format(text, 7)).fails(7, 9).made(1, 6, 2).beats(7);
        // Dead ones count, and what could not be run in any case is an error 2.
        script(String.format(text, 6).replace("(CREATE v1)", "(RESUME (CREATE v1) 0)").replace(" 5))", " (CREATE (PRINT v1))))"))
                .fails(7, 17).prints(Script.FUNCTION).made(1, 6, 2);
        script(String.format(text, 6).replace(" 5))", " (CREATE 5)))")).fails(2, 15);
        script(String.format(text, 6).replace(" 5))", " (CREATE (FUNC:3:2))))")).fails(2, 15).made(2, 6, 2);
    }

    private static void variablesAtMostByLocal() {
        script(afterVariables(119, "(LOCAL:0 3 v0)")).gives(3).made(0, 0, 120);
        script(afterVariables(120, "9")).gives(9).made(0, 0, 120);
        script(afterVariables(120, "(LOCAL:0 (PRINT 3) (PRINT 4))")).fails(7, REST).made(0, 0, 120).prints(3);
        script(afterVariables(120, "(LOCAL:0 (ERROR 8) (PRINT 4))")).fails(8, REST + 1).made(0, 0, 120);
    }

    private static void variablesAtMostByCall() {
        script(afterVariables(117, "(CALL (FUNC:0:3 v2) 1 2 3)")).gives(3).made(1, 0, 120);
        script(afterVariables(118, "(CALL (FUNC:0:3 v2) 1 2 3)")).fails(7, REST).made(1, 0, 118).beats(118);
        script(afterVariables(119, "(CALL (FUNC:0:1 v0) 1)")).gives(1).made(1, 0, 120).beats(120);
        script(afterVariables(120, "(CALL (FUNC:0:1 v0) (PRINT 1))")).fails(7, REST).made(1, 0, 120).beats(120).prints(1);
        script(afterVariables(120, "(CALL (FUNC:0:0 6))")).gives(6).made(1, 0, 120).beats(121);
        // The other errors of a CALL come before this one.
        script(afterVariables(120, "(CALL (FUNC:0:1 v0))")).fails(3, REST);
        script(afterVariables(120, "(CALL 4 5)")).fails(2, REST);
        new Script(DUE, 1, 200, afterVariables(120, "(CALL (FUNC:0:0 (CALL (FUNC:0:1) 1)))")).fails(4, REST + 2);
    }

    private static void variablesAtMostByResume() {
        script(afterVariables(119, "(RESUME (CREATE (FUNC:0:1 v0)) 4)")).gives(4).made(1, 1, 120);
        script(afterVariables(120, "(RESUME (CREATE (FUNC:0:1 v0)) (PRINT 4))")).fails(7, REST).made(1, 1, 120).beats(120)
                .prints(4);
        script(afterVariables(120, "(RESUME (CREATE (FUNC:0:0 6)) 4)")).gives(6).made(1, 1, 120).beats(121);
        // One that has run before makes no variable when it goes on.
        script("(LOCAL:0 (CREATE (FUNC:1:1 (YIELD 1) 8)) (RESUME v0 3) (LOCAL:7 3 (WHILE (LESS v7 120)"
                + " (LOCAL:6 (SET:7 (ADD v7 1)))) (RESUME v0 4)))").gives(8).made(1, 1, 120);
    }

    /** The error comes where the beat would: also if there is no fuel for it. */
    private static void limitInThePlaceOfTheBeat() {
        new Script(DUE, 6, 120, afterVariables(120, "(CALL (FUNC:0:1) 1)")).fails(7, REST).beats(120);
        new Script(DUE, 6, 120, afterVariables(120, "(CALL (FUNC:0:0))")).endsWithFuel().beats(120);
        new Script(DUE, 6, 120, afterVariables(120, "(RESUME (CREATE (FUNC:0:1)) 1)")).fails(7, REST).beats(120);
        new Script(DUE, 6, 120, afterVariables(120, "(RESUME (CREATE (FUNC:0:0)) 1)")).endsWithFuel().beats(120);
    }

    private static void limitsInsideCoroutines() {
        // The error of a RESUME is one of the coroutine that resumes; the other one has not run.
        script(afterVariables(120, "(RESUME (CREATE (FUNC:0:0 (SET:7 (CREATE (FUNC:1:1 v1))) (RESUME v7 1))) 2)"
                + " (PRINT (FAULT)) (PRINT (STATUS v7)) (RESUME v7 1)")).fails(7, 27).prints(7, 0).made(2, 2, 120);
        script(afterVariables(120, "(RESUME (CREATE (FUNC:0:0 (LOCAL:1 5 (PRINT 1)))) 2) (FAULT)")).gives(7).prints();
        script(afterVariables(120, "(RESUME (CREATE (FUNC:0:0 (CALL (FUNC:1:1) 1))) 2) (FAULT)")).gives(7);
        script("(SEQ (RESUME (CREATE (FUNC:0:0 (WHILE 1 (FUNC:0:0)))) 2) (FAULT))").gives(7).made(40, 1, 0).beats(41);
        script("(SEQ (RESUME (CREATE (FUNC:0:0 (WHILE 1 (CREATE (FUNC:0:0))))) 2) (FAULT))").gives(7).made(7, 6, 0).beats(7);
    }

    /** As many lists inside each other as can be open, in each of as many calls as the depth allows, in each coroutine. */
    private static void deepestLists() {
        String inner = "(SEQ ".repeat(12) + "(CALL v0)" + ")".repeat(12);
        String outer = "(SEQ ".repeat(14) + "(CALL v0)" + ")".repeat(14);
        script("(LOCAL:0 0 (SET:0 (FUNC:1:0 " + inner + ")) " + outer + ")").fails(4, 16).beats(6);
        script("(LOCAL:0 0 (SET:0 (FUNC:1:0 " + inner + ")) (LOCAL:1 0 (WHILE (LESS v1 6) (PRINT (RESUME (CREATE v0) 0))"
                + " (PRINT (FAULT)) (SET:1 (ADD v1 1)))) 5)").gives(5).made(1, 6, 2).beats(43)
                .prints(Script.NIL, 4, Script.NIL, 4, Script.NIL, 4, Script.NIL, 4, Script.NIL, 4, Script.NIL, 4);
        // A RETURN from the deepest place ends one call alone.
        String counted = "(SEQ ".repeat(9) + "(IF (LESS v1 6) (ADD 1 (CALL v0 (ADD v1 1))) (RETURN 100))" + ")".repeat(9);
        script("(LOCAL:0 0 (SET:0 (FUNC:1:1 " + counted + ")) (CALL v0 1))").gives(105).beats(6).made(1, 0, 7);
    }
}
