import java.lang.reflect.Method;
import java.lang.reflect.Modifier;
import java.util.Arrays;

/**
 * Every call with every number that stands at an edge, up to as large and as small as an int holds,
 * on objects of several states: each answer is held against the plain model's.
 */
public final class EdgeNumbersTest {
    private static final int LEAST = Edge.LEAST;
    private static final int GREATEST = Edge.GREATEST;
    private static final int[] BOOKS = {0, 1, -1, 2, LEAST, GREATEST};
    private static final int[] MANY = {
        LEAST, LEAST + 1, LEAST + 2, -4097, -14, -13, -12, -11, -10, -9, -8, -5, -4, -3, -2, -1, 0, 1, 2, 3, 4, 5, 6,
        7, 8, 9, 10, 11, 12, 13, 15, 16, 17, 39, 40, 41, 255, 256, 257, 4095, 4096, 4097, 1499, 1500, 1501,
        GREATEST - 1, GREATEST
    };
    private static final int[] SOME = {LEAST, -5, -1, 0, 1, 2, 4, 5, 8, GREATEST};
    private static final int[] FEW = {LEAST, -4, -1, 0, 4, 5};

    // An object is used for at most 512 calls.
    private static final int CALLS_OF_ONE = 150;
    private static final int STATES = 5;

    private TruthWalk walk;
    private PlainModel model;
    private int calls = 0;

    private EdgeNumbersTest() {
    }

    private void put(int book, int... signs) {
        int[] s = Arrays.copyOf(signs, 4);
        walk.clause(book, s[0], s[1], s[2], s[3]);
        model.clause(book, s);
    }

    private void lettersOfBoth(int zero, int one) {
        walk.letters(0, zero);
        model.letters(0, zero);
        walk.letters(1, one);
        model.letters(1, one);
    }

    private void compileAndLay() {
        walk.compile(0);
        model.compile(0);
        walk.lay(0, 0);
        model.lay(0, 0);
    }

    /** 0: new; 1: a graph of 0; 2: of both, bent; 3: of both, 40 clauses; 4: no row, one letter. */
    private void begin(int state) {
        walk = new TruthWalk();
        model = new PlainModel();
        calls = 0;
        if (state == 1 || state == 2) {
            lettersOfBoth(4, state == 1 ? 5 : 4);
            put(0, 1, 2);
            put(0, -1, 3);
            put(0, -2, 4);
            put(1, 4, -3, 2);
            walk.fix(0, 4);
            model.fix(0, 4);
            walk.ask(0, 1, true);
            model.ask(0, 1, true);
            walk.weight(0, -4, 0);
            model.weight(0, -4, 0);
        }
        if (state == 3) {
            lettersOfBoth(5, 5);
            for (int i = 0; i < 40; i++) {
                put(i == 39 ? 1 : 0, 1 + i % 5, -1 - (i + 1) % 5);
            }
            put(0, 1, 2, 3, 4);
            walk.more(0, 5);
            model.more(0, 5);
        }
        if (state == 4) {
            lettersOfBoth(1, 1);
            put(0, 1);
            put(0, -1);
        }
        if (state != 0) {
            compileAndLay();
        }
        if (state == 2 || state == 3) {
            walk.compile(1);
            model.compile(1);
        }
        if (state == 2) {
            walk.bend(0, 8, 0, 0);
            model.bend(0, 8, 0, 0);
        }
    }

    private static Method ofModel(Method call) {
        for (Method m : PlainModel.class.getDeclaredMethods()) {
            if (m.getName().equals(call.getName()) && m.getReturnType() == call.getReturnType()) {
                return m;
            }
        }
        return null;
    }

    private static int[] numbersFor(Method call, int at) {
        boolean ofBook = at == 0 && !Arrays.asList("row", "copy", "status", "less").contains(call.getName());
        int numbers = call.getParameterCount();
        if (ofBook) {
            return BOOKS;
        }
        if (call.getParameterTypes()[at] == boolean.class) {
            return new int[] {0, 1};
        }
        return numbers <= 2 ? MANY : numbers <= 4 ? SOME : FEW;
    }

    private long answerOfModel(Method call, Method due, Object[] with) throws Exception {
        if (call.getName().equals("guilty")) {
            return model.guilty;
        }
        if (call.getName().equals("clause")) {
            return model.clause((Integer) with[0], (Integer) with[1], (Integer) with[2], (Integer) with[3],
                (Integer) with[4]);
        }
        return ((Number) due.invoke(model, with)).longValue();
    }

    private void oneCall(Method call, Method due, Object[] with, int state) throws Exception {
        if (calls == CALLS_OF_ONE) {
            begin(state);
        }
        calls++;
        long got = ((Number) call.invoke(walk, with)).longValue();
        Due.is(call.getName() + Arrays.toString(with) + " of state " + state, got, answerOfModel(call, due, with));
    }

    private void allNumbers(Method call, Method due, Object[] with, int at, int state) throws Exception {
        if (at == with.length) {
            oneCall(call, due, with, state);
            return;
        }
        for (int number : numbersFor(call, at)) {
            boolean yesOrNo = call.getParameterTypes()[at] == boolean.class;
            with[at] = yesOrNo ? (Object) (number == 1) : (Object) number;
            allNumbers(call, due, with, at + 1, state);
        }
    }

    private void statuses(String of) {
        for (int by = -9; by <= -2; by++) {
            Due.is(of + ", then status(" + by + ")", walk.status(by), model.status(by));
        }
    }

    public static void main(String[] args) throws Exception {
        Due.about("numbers at an edge");
        EdgeNumbersTest test = new EdgeNumbersTest();
        int calls = 0;
        for (Method call : TruthWalk.class.getDeclaredMethods()) {
            if (Modifier.isPublic(call.getModifiers())) {
                calls++;
                Method due = ofModel(call);
                Due.holds("the model has " + call.getName(), due != null || call.getName().equals("guilty"));
                for (int state = 0; state < STATES; state++) {
                    test.begin(state);
                    test.allNumbers(call, due, new Object[call.getParameterCount()], 0, state);
                    test.statuses(call.getName());
                }
            }
        }
        Due.is("calls of the face", calls, 35);
        Due.end("EdgeNumbersTest");
    }
}
