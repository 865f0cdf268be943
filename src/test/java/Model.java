import java.util.ArrayDeque;
import java.util.ArrayList;
import java.util.Deque;
import java.util.List;

/**
 * The document's language a second time, written another way: a tree of objects, evaluated with what is to be
 * done with the value handed along, so that a coroutine that waits is such a "then" that is kept.
 */
final class Model {
    private interface Step {
        Step go();
    }

    private interface Then {
        Step with(Object value);
    }

    private static final class Node {
        int number;
        int op;
        int a;
        int b;
        final List<Node> parts = new ArrayList<>();
    }

    private record Variable(int name, Object[] cell, Variable outer) {
    }

    private static final class Function {
        Node node;
        Variable scope;
    }

    private static final class Strand {
        Function function;
        int status = 0;
        Then resumer;
        Then waiting;
        final Deque<Then> callers = new ArrayDeque<>();
    }

    private static final int NUM = 20;
    private static final int NAME = 21;
    private static final Object NIL = new Object();
    private static final int[] LEAST = {2, 2, 2, 2, 2, 3, 0, 1, 1, 1, 0, 1, 1, 1, 1, 1, 2, 1, 1, 0};
    private static final int[] MOST = {2, 2, 2, 2, 2, 3, 999, 999, 999, 1, 999, 4, 1, 1, 1, 1, 2, 1, 1, 0};

    private final int depth;
    private final int fuel;
    private Node root;
    private int nodes;
    private final List<Node> open = new ArrayList<>();

    private int outcome = 3;
    private Object result;
    private int errorCode;
    private int errorPlace;
    private int fault;
    private int beats;
    private int functions;
    private int coroutines;
    private int variables;
    private List<Object> output = new ArrayList<>();
    private Strand main;

    Model(int depth, int fuel) {
        this.depth = Math.max(1, Math.min(6, depth));
        this.fuel = Math.max(1, Math.min(200, fuel));
    }

    // ---- building ----

    private boolean takesNode() {
        if (root == null) {
            return true;
        }
        if (open.isEmpty() || nodes == 96) {
            return false;
        }
        Node list = open.get(open.size() - 1);
        return list.parts.size() < MOST[list.op];
    }

    private boolean knows(int name) {
        for (int i = 0; i < open.size(); i++) {
            Node list = open.get(i);
            int part = i == open.size() - 1 ? list.parts.size() : list.parts.size() - 1;
            if (list.op == 8 && list.a == name && part >= 1) {
                return true;
            }
            if (list.op == 10 && list.a <= name && name <= list.a + list.b - 1) {
                return true;
            }
        }
        return false;
    }

    private Node add(int op, int a, int b) {
        Node node = new Node();
        node.number = nodes++;
        node.op = op;
        node.a = a;
        node.b = b;
        if (root == null) {
            root = node;
        } else {
            open.get(open.size() - 1).parts.add(node);
        }
        return node;
    }

    boolean open(int op, int a, int b) {
        if (!takesNode() || open.size() == 16 || op < 0 || op > 19) {
            return false;
        }
        if (op == 8 && (a < 0 || a > 7) || op == 9 && !knows(a)) {
            return false;
        }
        if (op == 10 && (b < 0 || b > 3 || a < 0 || (long) a + b > 8)) {
            return false;
        }
        open.add(add(op, a, b));
        return true;
    }

    boolean num(int v) {
        if (!takesNode()) {
            return false;
        }
        add(NUM, v, 0);
        return true;
    }

    boolean name(int n) {
        if (!takesNode() || !knows(n)) {
            return false;
        }
        add(NAME, n, 0);
        return true;
    }

    boolean close() {
        if (open.isEmpty()) {
            return false;
        }
        Node list = open.get(open.size() - 1);
        if (list.parts.size() < LEAST[list.op]) {
            return false;
        }
        open.remove(open.size() - 1);
        return true;
    }

    void drop() {
        root = null;
        nodes = 0;
        open.clear();
    }

    // ---- answers ----

    int run() {
        if (root == null || !open.isEmpty()) {
            return 3;
        }
        fault = 0;
        beats = 0;
        functions = 0;
        coroutines = 0;
        variables = 0;
        output = new ArrayList<>();
        main = new Strand();
        Step step = eval(root, null, main, this::end);
        while (step != null) {
            step = step.go();
        }
        return outcome;
    }

    int kind() {
        return outcome == 0 ? kindOf(result) : -1;
    }

    int value() {
        return kind() == 1 ? (Integer) result : 0;
    }

    int error() {
        return outcome == 1 ? errorCode : 0;
    }

    int place() {
        return outcome == 1 ? errorPlace : -1;
    }

    int beats() {
        return beats;
    }

    int printed() {
        return output.size();
    }

    long output(int k) {
        if (k < 0 || k >= Math.min(24, output.size())) {
            return -4294967296L;
        }
        Object value = output.get(k);
        if (value instanceof Integer number) {
            return number;
        }
        return 4294967296L + Math.max(0, kindOf(value) - 1);
    }

    int made(int what) {
        return what == 0 ? functions : what == 1 ? coroutines : what == 2 ? variables : -1;
    }

    // ---- running ----

    private static int kindOf(Object value) {
        return value == NIL ? 0 : value instanceof Integer ? 1 : value instanceof Function ? 2 : 3;
    }

    private static boolean isFalse(Object value) {
        return value == NIL || value.equals(0);
    }

    private Step end(Object value) {
        outcome = 0;
        result = value;
        return null;
    }

    private Step raise(int code, Node node, Strand strand) {
        if (strand == main) {
            outcome = 1;
            errorCode = code;
            errorPlace = node.number;
            return null;
        }
        fault = code;
        strand.status = 2;
        return () -> strand.resumer.with(NIL);
    }

    private Step beat(Step next) {
        if (beats == fuel) {
            outcome = 2;
            return null;
        }
        beats++;
        return next;
    }

    private Variable variable(int name, Object value, Variable outer) {
        variables++;
        return new Variable(name, new Object[] {value}, outer);
    }

    private static Object[] cell(int name, Variable scope) {
        return scope.name == name ? scope.cell : cell(name, scope.outer);
    }

    private Step eval(Node node, Variable scope, Strand strand, Then then) {
        return () -> evalNow(node, scope, strand, then);
    }

    private Step evalNow(Node node, Variable scope, Strand strand, Then then) {
        switch (node.op) {
            case NUM:
                return then.with(node.a);
            case NAME:
                return then.with(cell(node.a, scope)[0]);
            case 5:
                return eval(node.parts.get(0), scope, strand,
                        v -> eval(node.parts.get(isFalse(v) ? 2 : 1), scope, strand, then));
            case 6:
                return body(node.parts, 0, NIL, scope, strand, then);
            case 7:
                return loop(node, scope, strand, then);
            case 8:
                return eval(node.parts.get(0), scope, strand, v -> {
                    if (variables == 120) {
                        return raise(7, node, strand);
                    }
                    return body(node.parts, 1, NIL, variable(node.a, v, scope), strand, then);
                });
            case 10:
                if (functions == 40) {
                    return raise(7, node, strand);
                }
                functions++;
                Function made = new Function();
                made.node = node;
                made.scope = scope;
                return then.with(made);
            default:
                return all(node, new ArrayList<>(), scope, strand, then);
        }
    }

    private Step body(List<Node> parts, int from, Object last, Variable scope, Strand strand, Then then) {
        if (from == parts.size()) {
            return then.with(last);
        }
        return eval(parts.get(from), scope, strand, v -> body(parts, from + 1, v, scope, strand, then));
    }

    private Step loop(Node node, Variable scope, Strand strand, Then then) {
        return beat(eval(node.parts.get(0), scope, strand, v -> isFalse(v) ? then.with(NIL)
                : body(node.parts, 1, NIL, scope, strand, ignored -> () -> loop(node, scope, strand, then))));
    }

    private Step all(Node node, List<Object> values, Variable scope, Strand strand, Then then) {
        if (values.size() == node.parts.size()) {
            return apply(node, values, scope, strand, then);
        }
        return eval(node.parts.get(values.size()), scope, strand, v -> {
            List<Object> more = new ArrayList<>(values);
            more.add(v);
            return all(node, more, scope, strand, then);
        });
    }

    private Step apply(Node node, List<Object> values, Variable scope, Strand strand, Then then) {
        Object first = values.isEmpty() ? NIL : values.get(0);
        switch (node.op) {
            case 4:
                return then.with(first.equals(values.get(1)) ? 1 : 0);
            case 9:
                cell(node.a, scope)[0] = first;
                return then.with(first);
            case 11:
                return call(node, values, strand, then);
            case 12:
                return strand.callers.isEmpty() ? end(first) : strand.callers.pop().with(first);
            case 13:
                return raise(first instanceof Integer code ? code : 1, node, strand);
            case 14:
                output.add(first);
                return then.with(first);
            case 15:
                return create(node, first, strand, then);
            case 16:
                return resume(node, first, values.get(1), strand, then);
            case 17:
                if (strand == main) {
                    return raise(6, node, strand);
                }
                strand.status = 0;
                strand.waiting = then;
                return strand.resumer.with(first);
            case 18:
                return first instanceof Strand other ? then.with(other.status) : raise(2, node, strand);
            case 19:
                return then.with(fault);
            default:
                return calculate(node, first, values.get(1), strand, then);
        }
    }

    private Step calculate(Node node, Object first, Object second, Strand strand, Then then) {
        if (!(first instanceof Integer x) || !(second instanceof Integer y)) {
            return raise(1, node, strand);
        }
        return then.with(node.op == 0 ? x + y : node.op == 1 ? x - y : node.op == 2 ? x * y : x < y ? 1 : 0);
    }

    private Step call(Node node, List<Object> values, Strand strand, Then then) {
        if (!(values.get(0) instanceof Function function)) {
            return raise(2, node, strand);
        }
        List<Object> arguments = values.subList(1, values.size());
        if (arguments.size() != function.node.b) {
            return raise(3, node, strand);
        }
        if (strand.callers.size() == depth) {
            return raise(4, node, strand);
        }
        if (variables + arguments.size() > 120) {
            return raise(7, node, strand);
        }
        return beat(() -> enter(function, arguments, strand, then));
    }

    private Step enter(Function function, List<Object> arguments, Strand strand, Then then) {
        Variable scope = function.scope;
        for (int i = 0; i < function.node.b; i++) {
            scope = variable(function.node.a + i, arguments.get(i), scope);
        }
        strand.callers.push(then);
        return body(function.node.parts, 0, NIL, scope, strand, v -> strand.callers.pop().with(v));
    }

    private Step create(Node node, Object first, Strand strand, Then then) {
        if (!(first instanceof Function function) || function.node.b > 1) {
            return raise(2, node, strand);
        }
        if (coroutines == 6) {
            return raise(7, node, strand);
        }
        coroutines++;
        Strand made = new Strand();
        made.function = function;
        return then.with(made);
    }

    private Step resume(Node node, Object first, Object value, Strand strand, Then then) {
        if (!(first instanceof Strand other)) {
            return raise(2, node, strand);
        }
        if (other.status != 0) {
            return raise(5, node, strand);
        }
        if (other.waiting == null && variables + other.function.node.b > 120) {
            return raise(7, node, strand);
        }
        return beat(() -> {
            other.status = 1;
            other.resumer = then;
            if (other.waiting != null) {
                return other.waiting.with(value);
            }
            return enter(other.function, List.of(value), other, v -> {
                other.status = 2;
                return other.resumer.with(v);
            });
        });
    }
}
