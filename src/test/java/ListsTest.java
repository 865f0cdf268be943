/** Promise 7: what run does with each kind of lists, apart from coroutines. */
public final class ListsTest {
    private static final Due DUE = new Due();

    public static void main(String[] args) {
        arithmetic();
        same();
        conditions();
        bodies();
        loops();
        locals();
        sets();
        functions();
        sharedVariables();
        calls();
        returns();
        errors();
        prints();
        order();
        DUE.end();
    }

    private static Script script(String text) {
        return new Script(DUE, text);
    }

    private static void arithmetic() {
        script("(ADD 2 3)").gives(5);
        script("(ADD 2147483647 1)").gives(Integer.MIN_VALUE);
        script("(SUB 2 3)").gives(-1);
        script("(SUB -2147483648 1)").gives(Integer.MAX_VALUE);
        script("(MUL -4 3)").gives(-12);
        script("(MUL 65536 65536)").gives(0);
        script("(MUL 2147483647 2147483647)").gives(1);
        script("(LESS 1 2)").gives(1);
        script("(LESS 2 2)").gives(0);
        script("(LESS 3 2)").gives(0);
        script("(LESS -2147483648 2147483647)").gives(1);
        script("(LESS 2147483647 -2147483648)").gives(0);
        for (String kind : new String[] {"ADD", "SUB", "MUL", "LESS"}) {
            for (String bad : new String[] {"(SEQ)", "(FUNC:0:0)", "(CREATE (FUNC:0:0))"}) {
                script("(" + kind + " " + bad + " 1)").fails(1, 0);
                script("(" + kind + " 1 " + bad + ")").fails(1, 0);
                script("(" + kind + " " + bad + " " + bad + ")").fails(1, 0);
            }
        }
    }

    private static void same() {
        script("(SAME (SEQ) (SEQ))").gives(1);
        script("(SAME (SEQ) 0)").gives(0);
        script("(SAME 0 (SEQ))").gives(0);
        script("(SAME 4 4)").gives(1);
        script("(SAME 4 -4)").gives(0);
        script("(SAME (FUNC:0:0) (FUNC:0:0))").gives(0);
        script("(LOCAL:0 (FUNC:0:0) (SAME v0 v0))").gives(1);
        script("(LOCAL:0 (CREATE (FUNC:0:0)) (SAME v0 v0))").gives(1);
        script("(SAME (CREATE (FUNC:0:0)) (CREATE (FUNC:0:0)))").gives(0);
        script("(LOCAL:0 (FUNC:0:0) (SAME (CREATE v0) (CREATE v0)))").gives(0);
        script("(LOCAL:0 (FUNC:0:0) (SAME v0 0))").gives(0);
        script("(LOCAL:0 (FUNC:0:0) (SAME v0 (SEQ)))").gives(0);
        script("(LOCAL:0 (FUNC:0:0) (SAME (CREATE v0) 1))").gives(0);
        script("(SEQ (FUNC:0:0) (LOCAL:0 (FUNC:0:0) (SAME (CREATE v0) v0)))").gives(0);
        script("(LOCAL:0 (FUNC:0:0 (FUNC:0:0)) (SAME (CALL v0) (CALL v0)))").gives(0);
    }

    private static void conditions() {
        script("(IF 1 2 3)").gives(2);
        script("(IF -1 2 3)").gives(2);
        script("(IF 0 2 3)").gives(3);
        script("(IF (SEQ) 2 3)").gives(3);
        script("(IF (FUNC:0:0) 2 3)").gives(2);
        script("(IF (CREATE (FUNC:0:0)) 2 3)").gives(2);
        script("(IF 1 (SEQ) 3)").givesKind(0);
        script("(IF (PRINT 1) (PRINT 2) (PRINT 3))").gives(2).prints(1, 2);
        script("(IF (PRINT 0) (PRINT 2) (PRINT 3))").gives(3).prints(0, 3);
        script("(IF (IF 0 1 0) (IF 1 1 1) (IF 1 7 8))").gives(7);
    }

    private static void bodies() {
        script("(SEQ)").givesKind(0);
        script("(SEQ 4)").gives(4);
        script("(SEQ (PRINT 4) (PRINT 5) 6)").gives(6).prints(4, 5);
        script("(SEQ 4 (SEQ))").givesKind(0);
    }

    private static void loops() {
        script("(WHILE 0)").givesKind(0).beats(1);
        script("(WHILE (SEQ) (PRINT 1))").givesKind(0).beats(1).prints();
        script("(LOCAL:0 2 (WHILE (PRINT v0) (SET:0 (SUB v0 1))))").givesKind(0).beats(3).prints(2, 1, 0);
        script("(LOCAL:0 2 (WHILE v0 (PRINT v0) 0 (SET:0 (SUB v0 1)) (PRINT 9)))").givesKind(0).beats(3).prints(2, 9, 1, 9);
        script("(LOCAL:0 2 (WHILE (SET:0 (SUB v0 1))))").givesKind(0).beats(2);
        script("(LOCAL:0 0 (WHILE (LESS v0 2) (LOCAL:1 0 (WHILE (LESS v1 2) (PRINT (ADD (MUL 10 v0) v1)) (SET:1 (ADD v1 1))))"
                + " (SET:0 (ADD v0 1))))").givesKind(0).beats(9).prints(0, 1, 10, 11);
        script("(WHILE 1 0 (SEQ))").endsWithFuel().beats(200);
    }

    private static void locals() {
        script("(LOCAL:0 5)").givesKind(0).made(0, 0, 1);
        script("(LOCAL:0 5 v0)").gives(5);
        script("(LOCAL:0 5 v0 6)").gives(6);
        script("(LOCAL:0 5 (LOCAL:0 6 v0))").gives(6);
        script("(LOCAL:0 5 (LOCAL:0 6 (SET:0 7)) v0)").gives(5);
        script("(LOCAL:0 5 (LOCAL:0 (ADD v0 1) v0))").gives(6);
        script("(LOCAL:0 5 (LOCAL:0 (SET:0 8) (PRINT v0) (SET:0 9)) v0)").gives(8).prints(8);
        script("(LOCAL:0 5 (LOCAL:1 6 (LOCAL:0 7 (SUB v0 v1))))").gives(1);
        // Each evaluation of the inner LOCAL makes another variable, which its function keeps.
        script("(LOCAL:0 0 (LOCAL:1 0 (LOCAL:2 0 (WHILE (LESS v2 2)"
                + " (LOCAL:3 (MUL v2 10) (SET:1 v0) (SET:0 (FUNC:4:0 (SET:3 (ADD v3 1)))))"
                + " (SET:2 (ADD v2 1))) (PRINT (CALL v0)) (PRINT (CALL v1)) (PRINT (CALL v0)))))")
                .gives(12).prints(11, 1, 12).made(2, 0, 5);
    }

    private static void sets() {
        script("(LOCAL:0 5 (SET:0 6))").gives(6);
        script("(LOCAL:0 5 (SET:0 (SEQ)) v0)").givesKind(0);
        script("(LOCAL:0 5 (SET:0 (ADD v0 v0)) v0)").gives(10);
        script("(CALL (FUNC:2:2 (SET:3 (ADD v2 v3)) (SUB v3 v2)) 4 9)").gives(9);
    }

    private static void functions() {
        script("(CALL (FUNC:0:0))").givesKind(0).beats(1).made(1, 0, 0);
        script("(CALL (FUNC:0:0 1 2))").gives(2);
        script("(FUNC:0:0 (ERROR 1))").givesKind(2).beats(0).made(1, 0, 0);
        script("(CALL (FUNC:3:1 v3) 8)").gives(8).made(1, 0, 1);
        script("(CALL (FUNC:5:3 (SUB (SUB v5 v6) v7)) 9 5 1)").gives(3).made(1, 0, 3);
        // A parameter hides a variable of its name around the function.
        script("(LOCAL:0 1 (CALL (FUNC:0:1 (SET:0 (ADD v0 1))) 5) v0)").gives(1);
        // The variables around the FUNC count, not those around the CALL.
        script("(LOCAL:0 1 (LOCAL:1 (FUNC:2:0 v0) (LOCAL:0 2 (CALL v1))))").gives(1);
    }

    private static void sharedVariables() {
        script("(LOCAL:0 0 (LOCAL:1 (FUNC:2:0 (SET:0 (ADD v0 1))) (LOCAL:2 (FUNC:3:0 v0) (CALL v1) (CALL v1) (CALL v2))))")
                .gives(2);
        script("(LOCAL:0 (FUNC:1:1 (FUNC:2:1 (SET:1 (ADD v1 v2)))) (LOCAL:3 (CALL v0 10) (LOCAL:4 (CALL v0 100)"
                + " (PRINT (CALL v3 1)) (PRINT (CALL v4 1)) (PRINT (CALL v3 1)))))").gives(12).prints(11, 101, 12);
    }

    private static void calls() {
        for (String bad : new String[] {"5", "0", "(SEQ)", "(CREATE (FUNC:0:0))"}) {
            script("(CALL " + bad + ")").fails(2, 0).beats(0);
            script("(CALL " + bad + " 1 2 3)").fails(2, 0).beats(0);
        }
        for (int parameters = 0; parameters <= 3; parameters++) {
            for (int arguments = 0; arguments <= 3; arguments++) {
                Script s = script("(CALL (FUNC:0:" + parameters + " 4)" + " 1".repeat(arguments) + ")");
                if (parameters == arguments) {
                    s.gives(4).beats(1).made(1, 0, parameters);
                } else {
                    s.fails(3, 0).beats(0).made(1, 0, 0);
                }
            }
        }
        // The number of arguments is looked at before the depth.
        new Script(DUE, 1, 200, "(CALL (FUNC:0:0 (CALL (FUNC:0:0) 1)))").fails(3, 2);
        new Script(DUE, 1, 200, "(CALL (FUNC:0:0 (CALL (FUNC:0:0))))").fails(4, 2).beats(1);
        new Script(DUE, 2, 200, "(CALL (FUNC:0:0 (CALL (FUNC:0:0 6))))").gives(6).beats(2);
        // A call that has ended is not in progress any more.
        new Script(DUE, 1, 200, "(LOCAL:0 (FUNC:1:0 (RETURN 3)) (ADD (CALL v0) (CALL v0)))").gives(6).beats(2);
        new Script(DUE, 1, 200, "(LOCAL:0 (FUNC:1:0 3) (ADD (CALL v0) (CALL v0)))").gives(6).beats(2);
        new Script(DUE, 1, 200, "(LOCAL:0 (FUNC:1:1 v1) (CALL v0 (CALL v0 7)))").gives(7).beats(2);
    }

    private static void returns() {
        script("(RETURN 4)").gives(4);
        script("(SEQ (PRINT 1) (ADD 1 (RETURN (FUNC:0:0))) (PRINT 2))").givesKind(2).prints(1);
        script("(LOCAL:0 3 (WHILE 1 (LOCAL:1 (RETURN v0) (PRINT 1))))").gives(3).beats(1).prints();
        script("(ADD 1 (CALL (FUNC:0:0 (PRINT 1) (RETURN 4) (PRINT 2))))").gives(5).prints(1);
        script("(CALL (FUNC:0:0 (SEQ (IF 1 (WHILE 1 (ADD 1 (RETURN 6))) 2)) (PRINT 2)))").gives(6).beats(2).prints();
        script("(CALL (FUNC:0:0 (ADD 1 (CALL (FUNC:0:0 (RETURN 4)))) ))").gives(5);
        script("(CALL (FUNC:0:0 (RETURN (RETURN 4)) ))").gives(4);
        script("(SEQ (CALL (FUNC:0:0 (RETURN 1))) (RETURN 2) 3)").gives(2);
        script("(SEQ (LOCAL:0 1 (CALL (FUNC:1:0 (RETURN (SEQ)))) (PRINT v0)) (RETURN 2))").gives(2).prints(1);
        script("(CALL (RETURN 8) (PRINT 1))").gives(8).prints().beats(0);
    }

    private static void errors() {
        script("(ERROR (SEQ))").fails(1, 0);
        script("(ERROR (FUNC:0:0))").fails(1, 0);
        script("(ERROR (CREATE (FUNC:0:0)))").fails(1, 0);
        script("(ERROR (ERROR 3))").fails(3, 1);
        script("(ERROR (RETURN 3))").gives(3);
        script("(SEQ (ERROR 3) (PRINT 1))").fails(3, 1).prints();
        script("(FAULT)").gives(0);
    }

    private static void prints() {
        script("(PRINT (PRINT 3))").gives(3).prints(3, 3);
        script("(PRINT (SEQ))").givesKind(0).prints(Script.NIL);
        script("(PRINT (FUNC:0:0))").givesKind(2).prints(Script.FUNCTION);
    }

    private static void order() {
        script("(SUB (PRINT 5) (PRINT 2))").gives(3).prints(5, 2);
        script("(CALL (SEQ (PRINT 0) (FUNC:0:3 (PRINT 4))) (PRINT 1) (PRINT 2) (PRINT 3))").gives(4).prints(0, 1, 2, 3, 4);
        script("(CALL 7 (PRINT 1) (PRINT 2))").fails(2, 0).prints(1, 2);
        script("(ADD (SEQ) (PRINT 1))").fails(1, 0).prints(1);
        script("(RESUME (PRINT 7) (PRINT 8))").fails(2, 0).prints(7, 8);
        // A name is evaluated in its turn: before the SET behind it.
        script("(LOCAL:0 1 (SUB v0 (SET:0 5)))").gives(-4);
        script("(LOCAL:0 1 (SUB (SET:0 5) v0))").gives(0);
    }
}
