/** Promise 7: what run does with CREATE, RESUME, YIELD, STATUS and FAULT. */
public final class CoroutinesTest {
    private static final Due DUE = new Due();

    public static void main(String[] args) {
        create();
        resumeAndYield();
        valuesThatPass();
        yieldFromInsideCalls();
        ends();
        errorsInside();
        notResumable();
        status();
        coroutinesInsideCoroutines();
        callsInProgress();
        DUE.end();
    }

    private static Script script(String text) {
        return new Script(DUE, text);
    }

    private static void create() {
        script("(CREATE (FUNC:0:0 (ERROR 1)))").givesKind(3).beats(0).made(1, 1, 0);
        script("(CREATE (FUNC:0:1))").givesKind(3).made(1, 1, 0);
        script("(CREATE (FUNC:0:2))").fails(2, 0).made(1, 0, 0);
        script("(CREATE (FUNC:0:3))").fails(2, 0).made(1, 0, 0);
        script("(CREATE 0)").fails(2, 0);
        script("(CREATE (SEQ))").fails(2, 0);
        script("(CREATE (CREATE (FUNC:0:0)))").fails(2, 0).made(1, 1, 0);
    }

    private static void resumeAndYield() {
        script("(RESUME (CREATE (FUNC:0:0 4)) 1)").gives(4).beats(1).made(1, 1, 0);
        script("(RESUME (CREATE (FUNC:0:0)) 1)").givesKind(0);
        script("(RESUME (CREATE (FUNC:0:1 (ADD v0 1))) 7)").gives(8).beats(1).made(1, 1, 1);
        script("(LOCAL:0 (CREATE (FUNC:1:1 (PRINT v1) (PRINT (YIELD 10)) (PRINT (YIELD 20)) 30))"
                + " (PRINT (RESUME v0 1)) (PRINT (RESUME v0 2)) (PRINT (RESUME v0 3)))")
                .gives(30).beats(3).prints(1, 10, 2, 20, 3, 30).made(1, 1, 2);
        script("(YIELD 1)").fails(6, 0);
        script("(YIELD (PRINT 1))").fails(6, 0).prints(1);
        script("(CALL (FUNC:0:0 (YIELD 1)))").fails(6, 2);
    }

    private static void valuesThatPass() {
        script("(RESUME (CREATE (FUNC:0:1 (YIELD v0))) (SEQ))").givesKind(0);
        script("(RESUME (CREATE (FUNC:0:1 (YIELD v0))) (FUNC:0:0))").givesKind(2);
        script("(LOCAL:0 (CREATE (FUNC:1:1 (YIELD (YIELD v1)))) (SAME v0 (RESUME v0 v0)))").gives(1);
        script("(LOCAL:0 (CREATE (FUNC:1:1 (YIELD (YIELD v1)))) (RESUME v0 1) (SAME v0 (RESUME v0 v0)))").gives(1);
    }

    private static void yieldFromInsideCalls() {
        // A function that yields for its caller, from inside a loop and an expression.
        script("(LOCAL:0 (FUNC:1:1 (ADD v1 (YIELD v1))) (LOCAL:2 (CREATE (FUNC:3:0 (LOCAL:4 0 (WHILE (LESS v4 2)"
                + " (PRINT (CALL v0 (ADD v4 100))) (SET:4 (ADD v4 1))) 77)))"
                + " (PRINT (RESUME v2 0)) (PRINT (RESUME v2 1)) (PRINT (RESUME v2 2)) (STATUS v2)))")
                .gives(2).prints(100, 101, 101, 103, 77).beats(8);
        // Two coroutines of one function go on by turns, each with variables of its own.
        script("(LOCAL:0 (FUNC:1:1 (WHILE 1 (YIELD v1) (SET:1 (ADD v1 1)))) (LOCAL:2 (CREATE v0) (LOCAL:3 (CREATE v0)"
                + " (PRINT (RESUME v2 10)) (PRINT (RESUME v3 20)) (PRINT (RESUME v2 0)) (PRINT (RESUME v3 0)))))")
                .gives(21).prints(10, 20, 11, 21).made(1, 2, 5);
    }

    private static void ends() {
        script("(LOCAL:0 (CREATE (FUNC:1:0 (SEQ (RETURN 5)) (PRINT 1))) (PRINT (RESUME v0 0)) (STATUS v0))")
                .gives(2).prints(5);
        script("(LOCAL:0 (CREATE (FUNC:1:0 (CALL (FUNC:1:0 (RETURN 5))) 6)) (RESUME v0 0))").gives(6);
        script("(LOCAL:0 (CREATE (FUNC:1:0 (YIELD 1) (RETURN 5))) (RESUME v0 0) (PRINT (RESUME v0 0)) (STATUS v0))")
                .gives(2).prints(5);
        // The program may end while a coroutine waits.
        script("(LOCAL:0 (CREATE (FUNC:1:0 (YIELD 1))) (RESUME v0 0) (RETURN v0))").givesKind(3);
    }

    private static void errorsInside() {
        script("(RESUME (CREATE (FUNC:0:0 (ERROR 9))) 1)").givesKind(0);
        script("(SEQ (RESUME (CREATE (FUNC:0:0 (ERROR 9) (PRINT 1))) 1) (FAULT))").gives(9).prints();
        script("(SEQ (RESUME (CREATE (FUNC:0:0 (CALL (FUNC:0:0 (ADD 1 (ERROR -3)))))) 1) (FAULT))").gives(-3);
        script("(SEQ (RESUME (CREATE (FUNC:0:0 (ADD 1 (SEQ)))) 1) (FAULT))").gives(1);
        script("(SEQ (RESUME (CREATE (FUNC:0:0 (CALL 1))) 1) (FAULT))").gives(2);
        script("(SEQ (RESUME (CREATE (FUNC:0:0 (CALL (FUNC:0:1)))) 1) (FAULT))").gives(3);
        script("(LOCAL:0 (CREATE (FUNC:1:0 (ERROR 9))) (RESUME v0 1) (STATUS v0))").gives(2);
        // The latest error counts, and an end without one changes nothing.
        script("(SEQ (RESUME (CREATE (FUNC:0:0 (ERROR 9))) 1) (RESUME (CREATE (FUNC:0:0 (ERROR 8))) 1)"
                + " (RESUME (CREATE (FUNC:0:0 7)) 1) (FAULT))").gives(8);
        script("(SEQ (RESUME (CREATE (FUNC:0:0 (ERROR 9))) 1) (RESUME (CREATE (FUNC:0:0 (ERROR 0))) 1) (FAULT))").gives(0);
        // The inner error ends the inner coroutine alone.
        script("(LOCAL:0 (CREATE (FUNC:1:0 (PRINT (RESUME (CREATE (FUNC:1:0 (ERROR 9))) 1)) (PRINT (FAULT)) 5))"
                + " (PRINT (RESUME v0 1)) (STATUS v0))").gives(2).prints(Script.NIL, 9, 5);
        script("(SEQ (RESUME (CREATE (FUNC:0:0 (ERROR 9))) 1) (ERROR 4))").fails(4, 7);
    }

    private static void notResumable() {
        for (String bad : new String[] {"1", "0", "(SEQ)", "(FUNC:0:0)"}) {
            script("(RESUME " + bad + " 1)").fails(2, 0).beats(0);
            script("(STATUS " + bad + ")").fails(2, 0);
        }
        script("(LOCAL:0 (CREATE (FUNC:1:0)) (RESUME v0 1) (RESUME v0 1))").fails(5, 6).beats(1);
        script("(LOCAL:0 (CREATE (FUNC:1:0 (ERROR 1))) (RESUME v0 1) (RESUME v0 1))").fails(5, 8).beats(1);
        script("(LOCAL:0 0 (SET:0 (CREATE (FUNC:1:0 (RESUME v0 1)))) (PRINT (RESUME v0 1)) (FAULT))")
                .gives(5).prints(Script.NIL).beats(1);
        // It waits for another one that it resumed: so it is running still.
        script("(LOCAL:0 0 (SET:0 (CREATE (FUNC:1:0 (PRINT (RESUME (CREATE (FUNC:1:0 (RESUME v0 1))) 2)) (PRINT (FAULT)) 3)))"
                + " (RESUME v0 4))").gives(3).prints(Script.NIL, 5).beats(2);
    }

    private static void status() {
        script("(STATUS (CREATE (FUNC:0:0)))").gives(0);
        script("(LOCAL:0 (CREATE (FUNC:1:0 (YIELD 1))) (RESUME v0 1) (STATUS v0))").gives(0);
        script("(LOCAL:0 (CREATE (FUNC:1:0)) (RESUME v0 1) (STATUS v0))").gives(2);
        script("(LOCAL:0 0 (SET:0 (CREATE (FUNC:1:0 (STATUS v0)))) (RESUME v0 1))").gives(1);
        script("(LOCAL:0 0 (SET:0 (CREATE (FUNC:1:0 (YIELD 1) (STATUS v0)))) (RESUME v0 1) (RESUME v0 1))").gives(1);
        script("(LOCAL:0 0 (SET:0 (CREATE (FUNC:1:0 (RESUME (CREATE (FUNC:1:0 (STATUS v0))) 1)))) (RESUME v0 1))").gives(1);
    }

    private static void coroutinesInsideCoroutines() {
        // The inner one is made by the outer one, and resumed by it and by the program.
        script("(LOCAL:0 0 (LOCAL:1 (CREATE (FUNC:2:0 (SET:0 (CREATE (FUNC:3:0 (YIELD 1) (YIELD 2) 3)))"
                + " (PRINT (RESUME v0 0)) (YIELD 9) (PRINT (RESUME v0 0)) 8))"
                + " (PRINT (RESUME v1 0)) (PRINT (RESUME v0 0)) (PRINT (RESUME v1 0)) (STATUS v0)))")
                .gives(2).prints(1, 9, 2, 3, 8).beats(5);
        // A YIELD gives its value to the RESUME that let it run this time.
        script("(LOCAL:0 (CREATE (FUNC:1:0 (YIELD 1) (YIELD 2) (YIELD 3))) (PRINT (RESUME v0 0))"
                + " (PRINT (RESUME (CREATE (FUNC:1:0 (MUL 10 (RESUME v0 0)))) 0)) (RESUME v0 0))").gives(3).prints(1, 20);
    }

    private static void callsInProgress() {
        // The coroutine's function is the first of its calls in progress; the resumer's do not count.
        new Script(DUE, 1, 200, "(CALL (FUNC:0:0 (RESUME (CREATE (FUNC:0:0 5)) 0)))").gives(5).beats(2);
        new Script(DUE, 1, 200, "(SEQ (RESUME (CREATE (FUNC:0:0 (CALL (FUNC:0:0)))) 0) (FAULT))").gives(4).beats(1);
        new Script(DUE, 2, 200, "(RESUME (CREATE (FUNC:0:0 (CALL (FUNC:0:0 6)))) 0)").gives(6).beats(2);
        // Calls that a coroutine has in progress while it waits do not count for the program.
        new Script(DUE, 2, 200, "(LOCAL:0 (CREATE (FUNC:1:0 (CALL (FUNC:1:0 (YIELD 1))))) (RESUME v0 0)"
                + " (CALL (FUNC:1:0 (CALL (FUNC:1:0 (RESUME v0 4))))))").gives(4).beats(5);
        // An error leaves the resumer's calls in progress as they were.
        new Script(DUE, 2, 200, "(CALL (FUNC:0:0 (RESUME (CREATE (FUNC:0:0 (CALL (FUNC:0:0 (ERROR 1))))) 0)"
                + " (CALL (FUNC:0:0 (CALL (FUNC:0:0))))))").fails(4, 12);
    }
}
