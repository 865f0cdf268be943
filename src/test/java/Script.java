import java.util.List;

/**
 * A program written as text, to be built by calls: "(LOCAL:0 5 (PRINT v0))" is open(8, 0, 0), num(5),
 * open(14, 0, 0), name(0), close(), close(). Operands that are not written are 0. A kind can be written as its
 * number too: "(14 5)".
 */
final class Script {
    static final long NIL = 4294967296L;
    static final long FUNCTION = 4294967297L;
    static final long COROUTINE = 4294967298L;
    static final long NOTHING = -4294967296L;
    static final int REST = 11;

    private static final List<String> KINDS = List.of("ADD", "SUB", "MUL", "LESS", "SAME", "IF", "SEQ", "WHILE",
            "LOCAL", "SET", "FUNC", "CALL", "RETURN", "ERROR", "PRINT", "CREATE", "RESUME", "YIELD", "STATUS", "FAULT");

    private final Due due;
    private final String text;
    private final int answer;
    final CoroutineScript object;

    /** A new object of depth 6 and fuel 200 with the program built and run. */
    Script(Due due, String text) {
        this(due, 6, 200, text);
    }

    Script(Due due, int depth, int fuel, String text) {
        this.due = due;
        this.text = text;
        this.object = new CoroutineScript(depth, fuel);
        build(due, object, text);
        answer = object.run();
    }

    static int kind(String word) {
        if (word.matches("-?[0-9]+")) {
            return Integer.parseInt(word);
        }
        int op = KINDS.indexOf(word);
        if (op < 0) {
            throw new IllegalArgumentException("no kind of lists: " + word);
        }
        return op;
    }

    /** Makes the calls that the text stands for; each of them is due to be taken. */
    static void build(Due due, CoroutineScript object, String text) {
        calls(due, object, text, true);
    }

    /** The same calls, but each of them is due to be refused. */
    static void refuse(Due due, CoroutineScript object, String text) {
        calls(due, object, text, false);
    }

    private static void calls(Due due, CoroutineScript object, String text, boolean taken) {
        for (String token : text.replace("(", " (").replace(")", " ) ").trim().split("\\s+")) {
            if (!token.isEmpty()) {
                due.is(text + ": the call of " + token, call(object, token), taken);
            }
        }
    }

    private static boolean call(CoroutineScript object, String token) {
        if (token.equals(")")) {
            return object.close();
        }
        if (token.startsWith("v")) {
            return object.name(Integer.parseInt(token.substring(1)));
        }
        if (!token.startsWith("(")) {
            return object.num(Integer.parseInt(token));
        }
        String[] words = token.substring(1).split(":");
        int a = words.length > 1 ? Integer.parseInt(words[1]) : 0;
        int b = words.length > 2 ? Integer.parseInt(words[2]) : 0;
        return object.open(kind(words[0]), a, b);
    }

    /** A program that makes so many variables, with as many beats, and then evaluates the rest: the nodes from REST on. */
    static String afterVariables(int variables, String rest) {
        return "(LOCAL:7 1 (WHILE (LESS v7 " + variables + ") (LOCAL:6 (SET:7 (ADD v7 1)))) " + rest + ")";
    }

    /** All that the object answers of its latest run. */
    static String answers(CoroutineScript object) {
        StringBuilder all = new StringBuilder("kind " + object.kind() + ", value " + object.value());
        all.append(", error " + object.error() + ", place " + object.place());
        all.append(", beats " + object.beats() + ", printed " + object.printed() + ", made");
        for (int what = -1; what <= 3; what++) {
            all.append(" " + object.made(what));
        }
        all.append(", output");
        for (int k = -1; k <= 25; k++) {
            all.append(" " + object.output(k));
        }
        return all.toString();
    }

    /** The run was OK with this number. */
    Script gives(int number) {
        ended(CoroutineScript.OK, 1, number, 0, -1);
        return this;
    }

    /** The run was OK with a value of this kind, which is no number. */
    Script givesKind(int kind) {
        ended(CoroutineScript.OK, kind, 0, 0, -1);
        return this;
    }

    Script fails(int code, int node) {
        ended(CoroutineScript.FAILED, -1, 0, code, node);
        return this;
    }

    Script endsWithFuel() {
        ended(CoroutineScript.FUEL, -1, 0, 0, -1);
        return this;
    }

    private void ended(int run, int kind, int value, int error, int place) {
        due.is(text + ": run()", answer, run);
        due.is(text + ": kind()", object.kind(), kind);
        due.is(text + ": value()", object.value(), value);
        due.is(text + ": error()", object.error(), error);
        due.is(text + ": place()", object.place(), place);
    }

    Script beats(int beats) {
        due.is(text + ": beats()", object.beats(), beats);
        return this;
    }

    Script made(int functions, int coroutines, int variables) {
        due.is(text + ": made(0)", object.made(0), functions);
        due.is(text + ": made(1)", object.made(1), coroutines);
        due.is(text + ": made(2)", object.made(2), variables);
        return this;
    }

    /** These are all that was printed. */
    Script prints(long... values) {
        due.is(text + ": printed()", object.printed(), values.length);
        for (int k = 0; k < values.length; k++) {
            due.is(text + ": output(" + k + ")", object.output(k), values[k]);
        }
        due.is(text + ": output(" + values.length + ")", object.output(values.length), NOTHING);
        return this;
    }
}
