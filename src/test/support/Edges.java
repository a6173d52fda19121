/** What the tests that go sentence by sentence through the document share. */
abstract class Edges {
    static final int[] SQUARE = {1, 2, 3, 4, 3, 4, 1, 2, 2, 1, 4, 3, 4, 3, 2, 1};
    static final int MIN = Integer.MIN_VALUE;
    static final int MAX = Integer.MAX_VALUE;
    static final int[] NO_CELLS = {-1, 16, 17, MIN, MAX};
    static final Class<?> INDEX = IndexOutOfBoundsException.class;
    static final Class<?> ARGUMENT = IllegalArgumentException.class;
    static final Class<?> STATE = IllegalStateException.class;
    static final Class<?> UNSUPPORTED = UnsupportedOperationException.class;
    static final Class<?> NO_ELEMENT = java.util.NoSuchElementException.class;
    static final Class<?> ARITHMETIC = ArithmeticException.class;

    private static String part = "";
    private static String sentence = "";
    private static int sentences = 0;
    private static int wrongAnswers = 0;

    interface Test {
        void run();
    }

    interface Call {
        Object answer();
    }

    // Sentences

    static void in(String partOfDocument) {
        part = partOfDocument;
    }

    /** The words of a sentence of the document, and what must hold because of them. */
    static void edge(String words, Test test) {
        sentence = words;
        sentences++;
        try {
            test.run();
        } catch (RuntimeException e) {
            due("the test itself", e, "nothing thrown");
        }
    }

    static void due(String what, Object got, Object want) {
        if (!want.equals(got)) {
            wrongAnswers++;
            System.out.println(part + ", \"" + sentence + "\": " + what + " answered " + got + ", due is " + want);
        }
    }

    static void refused(String what, Class<?> want, Call call) {
        due(what, answerOf(call), want);
    }

    /** The answer, or the class of the exception; but words, if it is the machine that throws. */
    static Object answerOf(Call call) {
        try {
            return call.answer();
        } catch (RuntimeException e) {
            return isThrownByProgram(e) ? e.getClass() : "the machine's " + e;
        }
    }

    private static boolean isThrownByProgram(RuntimeException e) {
        StackTraceElement[] trace = e.getStackTrace();
        boolean isDivision = "/ by zero".equals(e.getMessage());
        return trace.length > 0 && "Pegboardry.java".equals(trace[0].getFileName()) && !isDivision;
    }

    static void end() {
        System.out.println(sentences + " sentences tested, " + wrongAnswers + " answers not as due");
        if (wrongAnswers != 0) {
            System.exit(1);
        }
    }

    // Houses

    /** A house with a puzzle for each row of givens. */
    static Pegboardry with(int[]... givenRows) {
        Pegboardry x = new Pegboardry();
        for (int[] givenRow : givenRows) {
            int puzzle = x.puzzle();
            for (int cell = 0; cell < givenRow.length; cell++) {
                x.give(puzzle, cell, givenRow[cell]);
            }
        }
        return x;
    }

    static Pegboardry withEmpty() {
        return with(new int[0]);
    }

    /** Of the square, the first so many cells. */
    static int[] first(int count) {
        return java.util.Arrays.copyOf(SQUARE, count);
    }

    /** The square, with another value (or none) in a cell. */
    static int[] squareBut(int cell, int value) {
        int[] row = SQUARE.clone();
        row[cell] = value;
        return row;
    }

    static int cells(int... cells) {
        int sum = 0;
        for (int cell : cells) {
            sum += 1 << cell;
        }
        return sum;
    }

    // Steps and proofs

    static int[] stepsOf(Pegboardry x, int puzzle) {
        int[] steps = new int[x.steps(puzzle)];
        for (int i = 0; i < steps.length; i++) {
            steps[i] = x.stepAt(puzzle, i);
        }
        return steps;
    }

    static int ruleOf(int step) {
        return step / 100;
    }

    static int cellOf(int step) {
        return (step % 100 - 1) / 5;
    }

    static int valueOf(int step) {
        return step % 100 - 5 * cellOf(step);
    }

    /**
     * Tells steps until the cell has no other candidates than these in the proof of the puzzle 0: by the 0th rule, with
     * a given that is there for a step only.
     */
    static void leave(Pegboardry x, int cell, int... values) {
        int mask = 0;
        for (int value : values) {
            mask |= 1 << value;
        }
        for (int value = 1; value <= 4; value++) {
            if ((mask >> value & 1) == 0 && (x.candidates(cell) >> (value - 1) & 1) == 1) {
                x.give(0, cell, value == 1 ? 2 : 1);
                x.tell(0, cell, value);
            }
        }
        x.give(0, cell, 0);
    }

    /** A house with an empty puzzle and a proof of it just begun. */
    static Pegboardry withProof() {
        Pegboardry x = withEmpty();
        x.begin(0);
        return x;
    }

    static void takes(Pegboardry x, int rule, int cell, int value) {
        String step = "tell(" + rule + ", " + cell + ", " + value + ")";
        int before = x.candidates(cell);
        Object left = answerOf(() -> x.tell(rule, cell, value));
        due(step + " takes away", left instanceof Integer, true);
        due("candidates behind " + step, x.candidates(cell), before & ~(1 << (value - 1)));
    }

    static void keeps(Pegboardry x, int rule, int cell, int value) {
        String step = "tell(" + rule + ", " + cell + ", " + value + ")";
        int before = x.candidates(cell);
        refused(step, UNSUPPORTED, () -> x.tell(rule, cell, value));
        due("reason behind " + step, x.reason(), 2);
        due("candidates behind " + step, x.candidates(cell), before);
    }
}
