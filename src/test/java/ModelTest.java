import java.util.Arrays;
import java.util.Random;

/** Random runs of calls, from fixed seeds, on an object and on a Model: every answer is due to be the same. */
public final class ModelTest {
    private static final int OBJECTS = 60000;
    private static final int CALLS_MOST = 512;
    private static final int FUNCTIONS = 1;
    private static final int COROUTINES = 2;

    private static final int[] OUTCOMES = new int[4];
    private static final int[] ERRORS = new int[9];
    private static final int[] MOST_MADE = new int[3];

    private final Due due;
    private final long seed;
    private final Random random;
    private final CoroutineScript object;
    private final Model model;
    private final StringBuilder told = new StringBuilder();
    private int calls = 0;
    private int inFunctions = 0;
    private boolean same = true;

    private ModelTest(Due due, long seed) {
        this.due = due;
        this.seed = seed;
        this.random = new Random(seed);
        int depth = random.nextInt(9) - 1;
        int fuel = random.nextInt(3) == 0 ? random.nextInt(30) - 2 : 150 + random.nextInt(60);
        this.object = new CoroutineScript(depth, fuel);
        this.model = new Model(depth, fuel);
        told.append("new(").append(depth).append(", ").append(fuel).append(")");
    }

    public static void main(String[] args) {
        Due due = new Due();
        for (long seed = 1; seed <= OBJECTS; seed++) {
            new ModelTest(due, seed).useObject();
        }
        System.out.println("runs that were OK, FAILED, FUEL, INCOMPLETE: " + Arrays.toString(OUTCOMES));
        System.out.println("those that failed by codes 0 to 7 and others: " + Arrays.toString(ERRORS));
        System.out.println("the most functions, coroutines and variables of a run: " + Arrays.toString(MOST_MADE));
        due.end();
    }

    private void useObject() {
        while (calls < CALLS_MOST - 150 && same) {
            int budget = 10 + random.nextInt(86);
            if (random.nextInt(12) == 0) {
                noise(budget);
            } else {
                program(budget);
            }
            runBoth();
            if (random.nextInt(3) > 0) {
                runBoth();
            }
            if (random.nextInt(3) == 0) {
                // All of these are refused if the program is complete.
                noise(4);
                answers();
            }
            object.drop();
            model.drop();
            told.append(" drop");
            calls++;
        }
    }

    private void compare(String call, long got, long want) {
        calls++;
        told.append(' ').append(call);
        // What an object answers after its 512th call is free.
        if (got != want && same && calls <= CALLS_MOST) {
            same = false;
            due.is("seed " + seed + ": " + told, got, want);
        }
    }

    private boolean open(int op, int a, int b) {
        boolean taken = model.open(op, a, b);
        compare("open(" + op + ", " + a + ", " + b + ")", object.open(op, a, b) ? 1 : 0, taken ? 1 : 0);
        return taken;
    }

    private boolean num(int v) {
        boolean taken = model.num(v);
        compare("num(" + v + ")", object.num(v) ? 1 : 0, taken ? 1 : 0);
        return taken;
    }

    private boolean name(int n) {
        boolean taken = model.name(n);
        compare("name(" + n + ")", object.name(n) ? 1 : 0, taken ? 1 : 0);
        return taken;
    }

    private boolean close() {
        boolean taken = model.close();
        compare("close()", object.close() ? 1 : 0, taken ? 1 : 0);
        return taken;
    }

    private void runBoth() {
        int outcome = model.run();
        compare("run()", object.run(), outcome);
        OUTCOMES[outcome]++;
        if (outcome == CoroutineScript.FAILED) {
            ERRORS[model.error() < 0 || model.error() > 7 ? 8 : model.error()]++;
        }
        answers();
    }

    private void answers() {
        compare("kind()", object.kind(), model.kind());
        compare("value()", object.value(), model.value());
        compare("error()", object.error(), model.error());
        compare("place()", object.place(), model.place());
        compare("beats()", object.beats(), model.beats());
        compare("printed()", object.printed(), model.printed());
        for (int k = 0; k < 3; k++) {
            int which = random.nextInt(27) - 1;
            compare("output(" + which + ")", object.output(which), model.output(which));
            compare("made(" + k + ")", object.made(k), model.made(k));
            MOST_MADE[k] = Math.max(MOST_MADE[k], model.made(k));
        }
    }

    private void noise(int budget) {
        for (int i = 0; i < budget; i++) {
            switch (random.nextInt(6)) {
                case 0 -> num(random.nextInt(5) - 1);
                case 1 -> name(random.nextInt(10) - 1);
                case 2 -> close();
                default -> open(random.nextInt(22) - 1, random.nextInt(10) - 1, random.nextInt(5) - 1);
            }
        }
    }

    /** Variables 0 and 1 for functions, 2 and 3 for coroutines, 4 and more for numbers: mostly, not always. */
    private void program(int budget) {
        int[] left = {budget};
        if (random.nextInt(10) == 0) {
            part(left, 0, random.nextInt(3));
            return;
        }
        open(8, 0, 0);
        function(left, 2);
        open(8, 2, 0);
        list(15, left, 3, FUNCTIONS);
        open(8, 4, 0);
        num(random.nextInt(4));
        boolean loop = random.nextInt(3) == 0 && open(7, 0, 0) && num(1);
        if (!loop) {
            open(6, 0, 0);
        }
        parts(left, 4, 2 + random.nextInt(8));
        end();
        part(left, 4, 0);
        end();
        end();
        end();
    }

    /** What is to be a function or coroutine, or 0 for what is to be a number. */
    private int someWish() {
        return random.nextInt(4) > 0 ? 0 : random.nextInt(3);
    }

    private int nameFor(int wish) {
        return wish == 0 ? 4 + random.nextInt(4) : 2 * (wish - 1) + random.nextInt(2);
    }

    private void end() {
        for (int i = 0; i < 5 && !close(); i++) {
            num(1);
        }
    }

    private void parts(int[] left, int deep, int count) {
        for (int i = 0; i < count; i++) {
            part(left, deep, someWish());
        }
    }

    private void part(int[] left, int deep, int wish) {
        if (random.nextInt(200) == 0) {
            noise(2);
        }
        int kind = random.nextInt(50) == 0 ? random.nextInt(3) : wish;
        if (left[0]-- <= 0 || deep > 15 || kind > 0 && random.nextInt(2) == 0) {
            leaf(kind);
        } else if (kind == FUNCTIONS) {
            function(left, deep + 1);
        } else if (kind == COROUTINES) {
            list(15, left, deep + 1, FUNCTIONS);
        } else {
            numberPart(left, deep + 1);
        }
    }

    private void leaf(int wish) {
        if (wish == 0 && random.nextInt(2) == 0) {
            num(random.nextInt(20) == 0 ? random.nextInt() : random.nextInt(4));
        } else if (!name(nameFor(wish)) && !name(2 * wish - (wish > 0 ? 2 : -4))) {
            num(random.nextInt(4));
        }
    }

    private void function(int[] left, int deep) {
        int b = random.nextInt(6) == 0 ? random.nextInt(4) : random.nextInt(2);
        if (open(10, random.nextInt(12) == 0 ? random.nextInt(8) : 4 + random.nextInt(2), b)) {
            inFunctions++;
            parts(left, deep + 1, 1 + random.nextInt(5));
            end();
            inFunctions--;
        }
    }

    private void list(int op, int[] left, int deep, int... wishes) {
        if (open(op, 0, 0)) {
            for (int wish : wishes) {
                part(left, deep + 1, wish);
            }
            end();
        }
    }

    private void listOf(int op, int a, int first, int[] left, int deep, int others) {
        if (open(op, a, 0)) {
            part(left, deep + 1, first);
            parts(left, deep + 1, others);
            end();
        }
    }

    private void numberPart(int[] left, int deep) {
        int wish = someWish();
        boolean inside = inFunctions > 0 || random.nextInt(20) == 0;
        switch (random.nextInt(20)) {
            case 0, 1 -> list(random.nextInt(4), left, deep, 0, 0);
            case 2 -> list(4, left, deep, wish, wish);
            case 3 -> list(5, left, deep, 0, wish, wish);
            case 4 -> list(14, left, deep, wish);
            case 5 -> listOf(7, 0, 0, left, deep, random.nextInt(4));
            case 6, 7 -> listOf(8, nameFor(wish), wish, left, deep, random.nextInt(5));
            case 8, 9 -> listOf(9, nameFor(wish), wish, left, deep, 0);
            case 10, 11 -> call(left, deep);
            case 12 -> list(inside ? 12 : 14, left, deep, wish);
            case 13 -> list(inside && random.nextInt(4) == 0 ? 13 : 14, left, deep, 0);
            case 14, 15, 16 -> list(16, left, deep, COROUTINES, 0);
            case 17 -> list(inside ? 17 : 14, left, deep, 0);
            case 18 -> list(18, left, deep, COROUTINES);
            default -> list(19, left, deep);
        }
    }

    private void call(int[] left, int deep) {
        int arguments = random.nextInt(4) == 0 ? random.nextInt(4) : random.nextInt(2);
        listOf(11, 0, FUNCTIONS, left, deep, arguments);
    }
}
