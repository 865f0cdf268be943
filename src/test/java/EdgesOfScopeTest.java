/**
 * The edges that SCOPE names (promises 2, 4 and 7): for each sentence a test of its own, with the last name that is in
 * scope and the first that is not.
 */
public final class EdgesOfScopeTest {
    private static final Due DUE = new Due();

    public static void main(String[] args) {
        parametersOfFunc();
        parametersInAllParts();
        funcWithoutParameters();
        localFromTheSecondPartOn();
        localInItsFirstPart();
        scopeEndsWithTheList();
        innermostCounts();
        innermostCountsForSet();
        innermostEndsAndTheOuterCountsAgain();
        functionsSeeTheVariablesAround();
        DUE.end();
    }

    private static Script script(String text) {
        return new Script(DUE, text);
    }

    /** After the text the first names are taken, the other calls refused. */
    private static void names(String text, String taken, String refused) {
        CoroutineScript x = new CoroutineScript(6, 200);
        Script.build(DUE, x, text);
        Script.refuse(DUE, x, refused);
        Script.build(DUE, x, taken);
        Script.refuse(DUE, x, refused);
    }

    private static void parametersOfFunc() {
        DUE.sentence("A FUNC a b makes variables named a, a + 1, .. a + b - 1");
        names("(FUNC:0:1", "v0", "v1 v7 (SET:1");
        names("(FUNC:0:2", "v0 v1", "v2 (SET:2");
        names("(FUNC:0:3", "v0 v1 v2", "v3 v-1 (SET:3");
        names("(FUNC:3:1", "v3", "v2 v4 (SET:2 (SET:4");
        names("(FUNC:3:3", "v3 v4 v5", "v2 v6 (SET:2 (SET:6");
        names("(FUNC:7:1", "v7", "v6 v8 (SET:6 (SET:8");
        names("(FUNC:5:3", "v5 v6 v7", "v4 v8 (SET:4 (SET:8");
        script("(CALL (FUNC:0:3 (ADD (MUL 100 v0) (ADD (MUL 10 v1) v2))) 1 2 3)").gives(123);
        script("(CALL (FUNC:5:3 (ADD (MUL 100 v5) (ADD (MUL 10 v6) v7))) 1 2 3)").gives(123);
        script("(CALL (FUNC:6:2 (ADD (MUL 10 v6) v7)) 1 2)").gives(12);
        script("(CALL (FUNC:7:1 v7) 1)").gives(1);
    }

    private static void parametersInAllParts() {
        DUE.sentence("(its parameters) that are in scope in all its parts");
        names("(FUNC:2:1", "v2", "v1 v3");
        names("(FUNC:2:1 1", "v2", "v1 v3");
        names("(FUNC:2:1 1 2 3 4", "v2", "v1 v3");
        names("(FUNC:2:1 (SEQ (SEQ", "v2", "v1 v3");
        names("(FUNC:2:1 1 (LOCAL:4 (SEQ", "v2", "v4");
        script("(CALL (FUNC:2:1 (PRINT v2) (SEQ (PRINT v2)) v2) 4)").gives(4).prints(4, 4);
    }

    private static void funcWithoutParameters() {
        DUE.sentence("a, a + 1, .. a + b - 1: none if b is 0");
        names("(FUNC:0:0", "1", "v-1 v0 v1 (SET:0");
        names("(FUNC:7:0", "1", "v6 v7 v8 (SET:7");
        names("(FUNC:8:0", "1", "v7 v8 (SET:8");
        script("(CALL (FUNC:8:0 5))").gives(5).made(1, 0, 0);
    }

    private static void localFromTheSecondPartOn() {
        DUE.sentence("A LOCAL a makes a variable named a that is in scope in its parts from the second on");
        names("(LOCAL:0 1", "v0", "v1 v-1 (SET:1");
        names("(LOCAL:7 1", "v7", "v6 v8 (SET:6 (SET:8");
        names("(LOCAL:4 1 2 3", "v4", "v3 v5");
        names("(LOCAL:4 (SEQ 1 2)", "v4", "v3 v5");
        names("(LOCAL:4 1 (SEQ (SEQ", "v4", "v3 v5");
        script("(LOCAL:4 1 (PRINT v4) (SEQ (PRINT v4)) v4)").gives(1).prints(1, 1);
    }

    private static void localInItsFirstPart() {
        DUE.sentence("in scope in its parts from the second on: not in the first");
        names("(LOCAL:0 (SEQ", "1", "v0 (SET:0");
        names("(LOCAL:0 (SEQ 1 2", "1", "v0 (SET:0");
        names("(LOCAL:0 (SEQ (SEQ 1) (SEQ 2", "1", "v0 (SET:0");
        names("(LOCAL:0 (FUNC:1:1", "v1", "v0 (SET:0");
        CoroutineScript x = new CoroutineScript(6, 200);
        Script.build(DUE, x, "(LOCAL:0");
        Script.refuse(DUE, x, "v0 (SET:0");
        Script.build(DUE, x, "1");
        Script.build(DUE, x, "v0 (SET:0");
        // The first part sees the outer variable of the name, and the new one has not come to be.
        script("(LOCAL:0 5 (LOCAL:0 (SET:0 (ADD v0 1)) (PRINT v0) (SET:0 9)) v0)").gives(6).prints(6).made(0, 0, 2);
        script("(LOCAL:0 5 (LOCAL:0 (FUNC:1:0 (SET:0 (ADD v0 1))) (CALL v0)) v0)").gives(6);
    }

    private static void scopeEndsWithTheList() {
        DUE.sentence("in scope in its parts");
        names("(SEQ (LOCAL:0 1 v0)", "1", "v0 (SET:0");
        names("(SEQ (LOCAL:0 1)", "1", "v0 (SET:0");
        names("(SEQ (FUNC:0:3 v0 v1 v2)", "1", "v0 v1 v2 (SET:0");
        names("(SEQ (FUNC:0:3)", "1", "v0 v1 v2 (SET:2");
        names("(LOCAL:1 (LOCAL:0 1 v0)", "v1", "v0");
        names("(FUNC:1:1 (FUNC:2:1 v1 v2)", "v1", "v2");
    }

    private static void innermostCounts() {
        DUE.sentence("Of variables of one name the one of the innermost list counts");
        script("(LOCAL:0 1 (LOCAL:0 2 v0))").gives(2);
        script("(LOCAL:0 1 (LOCAL:0 2 (LOCAL:1 3 (LOCAL:0 4 (LOCAL:1 5 v0)))))").gives(4);
        script("(LOCAL:1 1 (CALL (FUNC:0:3 v1) 7 8 9))").gives(8);
        script("(CALL (FUNC:0:3 (LOCAL:1 5 (ADD v0 (ADD v1 v2)))) 10 20 40)").gives(55);
        script("(CALL (FUNC:0:2 (CALL (FUNC:1:2 (ADD v0 (ADD v1 v2))) 100 200)) 1 2)").gives(301);
    }

    private static void innermostCountsForSet() {
        DUE.sentence("Of variables of one name the one of the innermost list counts");
        script("(LOCAL:0 1 (LOCAL:0 2 (SET:0 3) (PRINT v0)) v0)").gives(1).prints(3);
        script("(LOCAL:1 1 (CALL (FUNC:0:3 (SET:1 5) (PRINT v1)) 7 8 9) v1)").gives(1).prints(5);
        script("(CALL (FUNC:0:1 (LOCAL:0 5 (SET:0 6)) v0) 4)").gives(4);
    }

    private static void innermostEndsAndTheOuterCountsAgain() {
        DUE.sentence("Of variables of one name the one of the innermost list counts");
        script("(LOCAL:0 1 (LOCAL:0 2 v0) (SET:0 (ADD v0 10)) v0)").gives(11);
        script("(LOCAL:0 1 (FUNC:0:1 v0) v0)").gives(1);
        script("(LOCAL:0 1 (CALL (FUNC:0:1 (SET:0 9)) 5) v0)").gives(1);
    }

    private static void functionsSeeTheVariablesAround() {
        DUE.sentence("parts of a FUNC see the variables around it");
        names("(LOCAL:0 1 (FUNC:1:1", "v0 v1", "v2");
        names("(LOCAL:0 1 (FUNC:1:1 (FUNC:2:1 (FUNC:3:1", "v0 v1 v2 v3", "v4");
        script("(LOCAL:0 1 (CALL (FUNC:1:1 (LOCAL:2 4 (CALL (FUNC:3:1 (ADD (ADD v0 v1) (ADD v2 v3))) 8))) 2))").gives(15);
        script("(LOCAL:0 1 (CALL (FUNC:1:0 (SET:0 6))) v0)").gives(6);
        // Not those around the CALL.
        script("(LOCAL:0 1 (LOCAL:1 (FUNC:2:0 v0) (LOCAL:0 2 (CALL (FUNC:0:1 (CALL v1)) 3))))").gives(1);
    }
}
