import java.util.NoSuchElementException;

/** At least one test for each promise of the document: ordinary inputs, the edges that it names, and wrong inputs. */
public final class PegboardryPromises {
    private static final int[] SQUARE = {1, 2, 3, 4, 3, 4, 1, 2, 2, 1, 4, 3, 4, 3, 2, 1};
    private static final int MIN = Integer.MIN_VALUE;
    private static final int MAX = Integer.MAX_VALUE;
    private static final Class<?> INDEX = IndexOutOfBoundsException.class;
    private static final Class<?> ARGUMENT = IllegalArgumentException.class;
    private static final Class<?> STATE = IllegalStateException.class;
    private static final Class<?> UNSUPPORTED = UnsupportedOperationException.class;
    private static final Class<?> NO_ELEMENT = NoSuchElementException.class;
    private static final Class<?> ARITHMETIC = ArithmeticException.class;

    private static int promise = 0;
    private static int wrongAnswers = 0;

    private interface Call {
        Object answer();
    }

    private static void due(String what, Object got, Object want) {
        if (!want.equals(got)) {
            wrongAnswers++;
            System.out.println("promise " + promise + ": " + what + " answered " + got + ", due is " + want);
        }
    }

    private static void refused(String what, Class<?> want, Call call) {
        Object got;
        try {
            got = call.answer();
        } catch (RuntimeException e) {
            got = e.getClass();
        }
        due(what, got, want);
    }

    private static Pegboardry withSquare(int lastGiven) {
        Pegboardry x = new Pegboardry();
        x.puzzle();
        for (int cell = 0; cell <= lastGiven; cell++) {
            x.give(0, cell, SQUARE[cell]);
        }
        return x;
    }

    private static Pegboardry withEmptyPuzzle() {
        return withSquare(-1);
    }

    public static void main(String[] args) {
        Runnable[] tests = {
            PegboardryPromises::newObject, PegboardryPromises::puzzle, PegboardryPromises::give,
            PegboardryPromises::addCage, PegboardryPromises::make, PegboardryPromises::given,
            PegboardryPromises::givens, PegboardryPromises::solutions, PegboardryPromises::solution,
            PegboardryPromises::solve, PegboardryPromises::steps, PegboardryPromises::stepAt,
            PegboardryPromises::grade, PegboardryPromises::isMinimal, PegboardryPromises::areAlike,
            PegboardryPromises::begin, PegboardryPromises::tell, PegboardryPromises::reason,
            PegboardryPromises::candidates, PegboardryPromises::isWhole, PegboardryPromises::mark,
            PegboardryPromises::marked, PegboardryPromises::wrong, PegboardryPromises::hint,
            PegboardryPromises::checksum, PegboardryPromises::solvedShare, PegboardryPromises::meanGivens,
            PegboardryPromises::isSound,
        };
        for (Runnable test : tests) {
            promise++;
            test.run();
        }
        System.out.println(wrongAnswers == 0 ? "all promises hold" : wrongAnswers + " answers are not as due");
        if (wrongAnswers != 0) {
            System.exit(1);
        }
    }

    private static void newObject() {
        Pegboardry x = new Pegboardry();
        due("checksum()", x.checksum(), 0L);
        due("isSound()", x.isSound(), true);
        due("reason()", x.reason(), 0);
        refused("givens(0)", INDEX, () -> x.givens(0));
        refused("isWhole()", STATE, () -> x.isWhole());
        refused("meanGivens()", ARITHMETIC, () -> x.meanGivens());
        Pegboardry other = new Pegboardry();
        other.puzzle();
        refused("givens(0) behind puzzle() of another object", INDEX, () -> x.givens(0));
    }

    private static void puzzle() {
        Pegboardry x = new Pegboardry();
        for (int i = 0; i < 8; i++) {
            due("puzzle()", x.puzzle(), i);
            due("givens", x.givens(i), 0);
            due("areAlike of puzzles without cages", x.areAlike(0, i), true);
        }
        refused("9th puzzle()", STATE, () -> x.puzzle());
        refused("givens(8)", INDEX, () -> x.givens(8));
    }

    private static void give() {
        Pegboardry x = withEmptyPuzzle();
        due("give(0, 3, 4)", x.give(0, 3, 4), 0);
        due("give(0, 3, 1)", x.give(0, 3, 1), 4);
        due("give(0, 3, 0)", x.give(0, 3, 0), 1);
        due("give(0, 3, 0)", x.give(0, 3, 0), 0);
        due("give(0, 15, 2)", x.give(0, 15, 2), 0);
        for (int puzzle : new int[] {-1, 1, 8, MIN, MAX}) {
            refused("give(no puzzle)", INDEX, () -> x.give(puzzle, 0, 1));
        }
        for (int cell : new int[] {-1, 16, MIN, MAX}) {
            refused("give(no cell, no value)", INDEX, () -> x.give(0, cell, 5));
        }
        for (int value : new int[] {-1, 5, MIN, MAX}) {
            refused("give(no value)", ARGUMENT, () -> x.give(0, 15, value));
        }
        due("given(0, 15)", x.given(0, 15), 2);
        due("givens(0)", x.givens(0), 1);
        due("solve before", x.solve(0), 'n');
        x.give(0, 14, 2);
        due("solve behind a give", x.solve(0), 'b');
        due("solutions behind a give", x.solutions(0), 0);
    }

    private static void addCage() {
        Pegboardry x = withEmptyPuzzle();
        due("two cells", x.addCage(0, 3, 2), 1);
        due("four cells", x.addCage(0, 0xF000, 16), 2);
        due("three cells", x.addCage(0, 0x8421 - 1, 9), 3);
        refused("no puzzle, wrong sum", INDEX, () -> x.addCage(1, 3, 1));
        refused("no puzzle", INDEX, () -> x.addCage(-1, 3, 3));
        for (int sum : new int[] {1, 17, 0, -2, MIN, MAX}) {
            refused("sum " + sum, ARGUMENT, () -> x.addCage(0, 3, sum));
        }
        for (int cells : new int[] {0, 1, 0x8000, 31, 0xFFFF, 0x10001, 0x10003, -1, MIN, MIN + 1, MIN + 3}) {
            refused("cells " + cells, ARGUMENT, () -> x.addCage(0, cells, 5));
        }
        for (int i = 4; i <= 6; i++) {
            due("cage " + i, x.addCage(0, 3, 2), i);
        }
        refused("7th cage", UNSUPPORTED, () -> x.addCage(0, 3, 2));
        refused("7th cage, wrong sum", ARGUMENT, () -> x.addCage(0, 3, 17));
        x.puzzle();
        due("solutions before", x.solutions(1), 2);
        due("solve before", x.solve(1), 'n');
        due("another puzzle's cages", x.addCage(1, 3, 2), 1);
        due("solutions behind a cage", x.solutions(1), 0);
        due("solve behind a cage", x.solve(1), 'b');
    }

    private static void make() {
        Pegboardry x = new Pegboardry();
        due("make(1234, 3)", x.make(1234, 3), 0);
        int[] want = {3, 4, 0, 2, 2, 0, 0, 1, 0, 0, 0, 0, 1, 0, 0, 0};
        for (int cell = 0; cell < 16; cell++) {
            due("given(0, " + cell + ") of make(1234, 3)", x.given(0, cell), want[cell]);
        }
        for (int seed : new int[] {-1, 10000, MIN, MAX}) {
            refused("seed " + seed, ARGUMENT, () -> x.make(seed, 1));
        }
        for (int highest : new int[] {0, 4, MIN, MAX}) {
            refused("highest " + highest, ARGUMENT, () -> x.make(0, highest));
        }
        due("make(0, 1)", x.make(0, 1), 1);
        due("make(9999, 3)", x.make(9999, 3), 2);
        for (int i = 3; i < 8; i++) {
            due("make(" + i + ", 2)", x.make(i, 2), i);
        }
        for (int i = 0; i < 8; i++) {
            due("solve of a made one", x.solve(i), 's');
            due("marked of a made one", x.marked(i, 0), 0);
        }
        refused("9th make", STATE, () -> x.make(1, 1));
        refused("9th make, wrong seed", ARGUMENT, () -> x.make(-1, 1));
    }

    private static void given() {
        Pegboardry x = withSquare(14);
        for (int cell = 0; cell < 16; cell++) {
            due("given(0, " + cell + ")", x.given(0, cell), cell < 15 ? SQUARE[cell] : 0);
        }
        refused("given(-1, 0)", INDEX, () -> x.given(-1, 0));
        refused("given(1, 0)", INDEX, () -> x.given(1, 0));
        refused("given(0, -1)", INDEX, () -> x.given(0, -1));
        refused("given(0, 16)", INDEX, () -> x.given(0, 16));
        x.mark(0, 15, 1);
        due("given of a marked cell", x.given(0, 15), 0);
    }

    private static void givens() {
        Pegboardry x = withSquare(9);
        due("givens(0)", x.givens(0), 10);
        x.give(0, 0, 0);
        due("givens(0)", x.givens(0), 9);
        x.give(0, 1, 3);
        due("givens(0)", x.givens(0), 9);
        x.mark(0, 0, 3);
        due("givens(0)", x.givens(0), 9);
        due("givens(0) of a square", withSquare(15).givens(0), 16);
        refused("givens(-1)", INDEX, () -> x.givens(-1));
        refused("givens(1)", INDEX, () -> x.givens(1));
    }

    private static void solutions() {
        due("solutions of a square", withSquare(15).solutions(0), 1);
        due("solutions without givens", withEmptyPuzzle().solutions(0), 2);
        Pegboardry x = withSquare(7);
        due("solutions of two rows", x.solutions(0), 2);
        x.addCage(0, 1 << 8 | 1 << 13, 3);
        due("with a cage of 2 and 1", x.solutions(0), 1);
        x.addCage(0, 1 << 9 | 1 << 12, 6);
        due("with another cage, of 3 and 4 but a sum of 6", x.solutions(0), 0);
        Pegboardry y = withEmptyPuzzle();
        y.give(0, 0, 1);
        y.give(0, 12, 1);
        due("solutions with equal givens in a column", y.solutions(0), 0);
        refused("solutions(-1)", INDEX, () -> x.solutions(-1));
        refused("solutions(1)", INDEX, () -> x.solutions(1));
    }

    private static void solution() {
        Pegboardry x = withSquare(10);
        due("solutions(0)", x.solutions(0), 1);
        for (int cell = 0; cell < 16; cell++) {
            due("solution(0, " + cell + ")", x.solution(0, cell), SQUARE[cell]);
        }
        refused("solution(1, 0)", INDEX, () -> x.solution(1, 0));
        refused("solution(0, 16)", INDEX, () -> x.solution(0, 16));
        refused("solution(0, -1)", INDEX, () -> x.solution(0, -1));
        Pegboardry y = withSquare(7);
        refused("solution with two", NO_ELEMENT, () -> y.solution(0, 0));
        refused("solution with two, no cell", INDEX, () -> y.solution(0, 16));
        y.give(0, 15, 4);
        y.give(0, 14, 4);
        refused("solution with none", NO_ELEMENT, () -> y.solution(0, 0));
    }

    private static void solve() {
        due("solve of a square", withSquare(15).solve(0), 's');
        due("solve without givens", withEmptyPuzzle().solve(0), 'n');
        due("solve of two rows", withSquare(7).solve(0), 'n');
        Pegboardry x = withSquare(14);
        x.give(0, 15, 2);
        due("solve of a full square that clashes", x.solve(0), 'b');
        x.give(0, 15, 1);
        x.addCage(0, 1 << 15 | 1 << 10, 6);
        due("solve of a full square with a cage that fails", x.solve(0), 'b');
        refused("solve(-1)", INDEX, () -> x.solve(-1));
        refused("solve(1)", INDEX, () -> x.solve(1));
    }

    private static void steps() {
        due("steps of a square", withSquare(15).steps(0), 48);
        due("steps without givens", withEmptyPuzzle().steps(0), 0);
        Pegboardry x = withSquare(14);
        due("steps of all but one", x.steps(0), 48);
        x.give(0, 15, 2);
        due("steps of a full square that clashes", x.steps(0), 49);
        Pegboardry y = withEmptyPuzzle();
        y.give(0, 0, 1);
        y.give(0, 1, 1);
        due("steps until a cell has none", y.steps(0), 7);
        refused("steps(-1)", INDEX, () -> x.steps(-1));
        refused("steps(1)", INDEX, () -> x.steps(1));
    }

    private static void stepAt() {
        Pegboardry x = withSquare(14);
        due("stepAt(0, 0)", x.stepAt(0, 0), 2);
        due("stepAt(0, 3)", x.stepAt(0, 3), 6);
        due("stepAt(0, 44)", x.stepAt(0, 44), 74);
        due("stepAt(0, 45)", x.stepAt(0, 45), 177);
        due("stepAt(0, 47)", x.stepAt(0, 47), 179);
        refused("stepAt(0, 48)", NO_ELEMENT, () -> x.stepAt(0, 48));
        refused("stepAt(0, -1)", NO_ELEMENT, () -> x.stepAt(0, -1));
        refused("stepAt(0, MIN)", NO_ELEMENT, () -> x.stepAt(0, MIN));
        refused("stepAt(0, MAX)", NO_ELEMENT, () -> x.stepAt(0, MAX));
        refused("stepAt(1, 48)", INDEX, () -> x.stepAt(1, 48));
        refused("stepAt(-1, 0)", INDEX, () -> x.stepAt(-1, 0));
        due("the clash's step", clashed().stepAt(0, 6), 101);
        due("a cage's first step", caged(3, 3).stepAt(0, 0), 403);
        due("a hidden value's step", hidden().stepAt(0, 21), 202);
    }

    private static Pegboardry clashed() {
        Pegboardry x = withEmptyPuzzle();
        x.give(0, 0, 1);
        x.give(0, 3, 1);
        return x;
    }

    private static Pegboardry caged(int cells, int sum) {
        Pegboardry x = withEmptyPuzzle();
        x.addCage(0, cells, sum);
        return x;
    }

    /** Nine steps by the givens and twelve by their lines leave the first cell as the only one for a 1. */
    private static Pegboardry hidden() {
        Pegboardry x = withEmptyPuzzle();
        x.give(0, 5, 1);
        x.give(0, 10, 1);
        x.give(0, 15, 1);
        return x;
    }

    private static void grade() {
        due("grade of a square", withSquare(15).grade(0), 48);
        due("grade of all but one", withSquare(14).grade(0), 103);
        Pegboardry x = withSquare(3);
        x.addCage(0, 0x0030, 7);
        x.addCage(0, 0x0300, 3);
        x.addCage(0, 0x0210, 4);
        x.give(0, 7, 2);
        due("solve by cages", x.solve(0), 's');
        due("the hundreds of its grade", x.grade(0) / 100, 4);
        int byCages = 0;
        for (int i = 0; i < x.steps(0); i++) {
            byCages += x.stepAt(0, i) / 100 == 4 ? 1 : 0;
        }
        due("the rest of its grade", x.grade(0) % 100, byCages);
        refused("grade without givens", UNSUPPORTED, () -> withEmptyPuzzle().grade(0));
        refused("grade of a broken one", UNSUPPORTED, () -> clashed().grade(0));
        refused("grade(-1)", INDEX, () -> x.grade(-1));
        refused("grade(1)", INDEX, () -> x.grade(1));
    }

    private static void isMinimal() {
        due("isMinimal of a square", withSquare(15).isMinimal(0), false);
        due("isMinimal without givens", withEmptyPuzzle().isMinimal(0), false);
        due("isMinimal without solutions", clashed().isMinimal(0), false);
        Pegboardry x = withSquare(15);
        for (int cell = 0; cell < 16; cell++) {
            x.give(0, cell, 0);
            if (x.solutions(0) != 1) {
                x.give(0, cell, SQUARE[cell]);
            }
        }
        due("isMinimal when each was tried", x.isMinimal(0), true);
        int without = x.given(0, 0) == 0 ? 0 : 15;
        x.give(0, without, SQUARE[without]);
        due("isMinimal with one more", x.isMinimal(0), false);
        due("givens are kept", x.given(0, without), SQUARE[without]);
        Pegboardry y = caged(1 << 2 | 1 << 4, 6);
        y.addCage(0, 1 << 12 | 1 << 15, 5);
        y.addCage(0, 1 << 6 | 1 << 10 | 1 << 15, 6);
        y.addCage(0, 1 << 3 | 1 << 7, 6);
        y.addCage(0, 1 << 6 | 1 << 12, 5);
        y.addCage(0, 1 | 1 << 4 | 1 << 7 | 1 << 11, 9);
        due("solutions by cages alone", y.solutions(0), 1);
        due("isMinimal by cages alone", y.isMinimal(0), true);
        refused("isMinimal(-1)", INDEX, () -> x.isMinimal(-1));
        refused("isMinimal(1)", INDEX, () -> x.isMinimal(1));
    }

    private static void areAlike() {
        int[] picture = {1, 2, 3, 0, 0, 4, 0, 0, 1, 0, 0, 0, 0, 0, 0, 0};
        int[] names = {0, 3, 1, 4, 2};
        for (int view = 0; view < 8; view++) {
            Pegboardry x = new Pegboardry();
            x.puzzle();
            x.puzzle();
            for (int cell = 0; cell < 16; cell++) {
                int row = cell / 4;
                int column = cell % 4;
                int seenRow = (view & 1) == 0 ? row : 3 - row;
                int seenColumn = (view & 2) == 0 ? column : 3 - column;
                int seen = (view & 4) == 0 ? 4 * seenRow + seenColumn : 4 * seenColumn + seenRow;
                x.give(0, cell, picture[cell]);
                x.give(1, seen, names[picture[cell]]);
            }
            due("areAlike in view " + view, x.areAlike(0, 1), true);
            due("areAlike of the same", x.areAlike(1, 1), true);
            x.give(0, 8, 2);
            due("areAlike with another pattern", x.areAlike(0, 1), false);
            due("areAlike with another pattern, turned about", x.areAlike(1, 0), false);
            x.give(0, 8, 0);
            due("areAlike with one given less", x.areAlike(0, 1), false);
            due("areAlike with one given more", x.areAlike(1, 0), false);
        }
        Pegboardry y = withEmptyPuzzle();
        y.puzzle();
        y.addCage(1, 3, 3);
        refused("areAlike(0, 1) with cages", UNSUPPORTED, () -> y.areAlike(0, 1));
        refused("areAlike(1, 0) with cages", UNSUPPORTED, () -> y.areAlike(1, 0));
        refused("areAlike(1, 1) with cages", UNSUPPORTED, () -> y.areAlike(1, 1));
        for (int none : new int[] {-1, 2, MIN, MAX}) {
            refused("areAlike(no puzzle, 1)", INDEX, () -> y.areAlike(none, 1));
            refused("areAlike(1, no puzzle)", INDEX, () -> y.areAlike(1, none));
        }
    }

    private static void begin() {
        Pegboardry x = withSquare(15);
        x.puzzle();
        due("begin(0)", x.begin(0), 64);
        due("tell(0, 0, 2)", x.tell(0, 0, 2), 63);
        refused("tell(1, 0, 2)", UNSUPPORTED, () -> x.tell(1, 0, 2));
        refused("begin(-1)", INDEX, () -> x.begin(-1));
        refused("begin(2)", INDEX, () -> x.begin(2));
        due("candidates behind begin(2)", x.candidates(0), 13);
        due("reason behind begin(2)", x.reason(), 1);
        due("begin(1)", x.begin(1), 64);
        due("candidates behind begin(1)", x.candidates(0), 15);
        due("reason behind begin(1)", x.reason(), 0);
        refused("tell(0, 0, 2) without the given", UNSUPPORTED, () -> x.tell(0, 0, 2));
    }

    private static void tell() {
        Pegboardry x = withEmptyPuzzle();
        refused("tell without a proof", STATE, () -> x.tell(0, 0, 1));
        refused("tell without a proof, no value", ARGUMENT, () -> x.tell(0, 0, 0));
        x.begin(0);
        for (int cell : new int[] {-1, 16, MIN, MAX}) {
            refused("tell(no cell, no rule)", INDEX, () -> x.tell(5, cell, 0));
        }
        for (int rule : new int[] {-1, 5, MIN, MAX}) {
            refused("tell(no rule)", ARGUMENT, () -> x.tell(rule, 0, 1));
        }
        for (int value : new int[] {0, 5, -1, MIN, MAX}) {
            refused("tell(no value)", ARGUMENT, () -> x.tell(0, 0, value));
        }
        due("reason behind wrong arguments", x.reason(), 0);
        tellGivensAndLines();
        tellPairs();
        tellCages();
    }

    private static void tellGivensAndLines() {
        Pegboardry x = withEmptyPuzzle();
        x.begin(0);
        refused("0th rule without a given", UNSUPPORTED, () -> x.tell(0, 0, 2));
        x.give(0, 0, 1);
        due("0th rule, a given behind the beginning", x.tell(0, 0, 2), 63);
        refused("0th rule, the given value", UNSUPPORTED, () -> x.tell(0, 0, 1));
        refused("0th rule, a candidate that is gone", UNSUPPORTED, () -> x.tell(0, 0, 2));
        due("reason", x.reason(), 1);
        due("0th rule", x.tell(0, 0, 3), 62);
        refused("1st rule, two candidates there", UNSUPPORTED, () -> x.tell(1, 1, 1));
        due("reason", x.reason(), 2);
        due("0th rule", x.tell(0, 0, 4), 61);
        refused("1st rule, the cell itself", UNSUPPORTED, () -> x.tell(1, 0, 1));
        refused("1st rule, another value", UNSUPPORTED, () -> x.tell(1, 1, 2));
        refused("1st rule, another line", UNSUPPORTED, () -> x.tell(1, 5, 1));
        due("1st rule in a row", x.tell(1, 3, 1), 60);
        due("1st rule in a column", x.tell(1, 12, 1), 59);
        due("1st rule in a row", x.tell(1, 1, 1), 58);
        x.give(0, 0, 0);
        refused("2nd rule, another cell has the value", UNSUPPORTED, () -> x.tell(2, 2, 2));
        x.give(0, 5, 4);
        x.give(0, 9, 4);
        x.give(0, 13, 4);
        due("0th rule", x.tell(0, 5, 2), 57);
        due("0th rule", x.tell(0, 9, 2), 56);
        refused("2nd rule, one other cell has the value", UNSUPPORTED, () -> x.tell(2, 1, 3));
        due("0th rule", x.tell(0, 13, 2), 55);
        refused("2nd rule, the value itself", UNSUPPORTED, () -> x.tell(2, 1, 2));
        due("2nd rule in a column", x.tell(2, 1, 3), 54);
        due("2nd rule in a column", x.tell(2, 1, 4), 53);
        refused("nothing changes by a refused step", UNSUPPORTED, () -> x.tell(2, 1, 2));
        due("candidates", x.candidates(1), 2);
    }

    private static void tellPairs() {
        Pegboardry x = withEmptyPuzzle();
        x.give(0, 0, 1);
        x.give(0, 2, 2);
        x.begin(0);
        x.tell(0, 0, 3);
        x.tell(0, 0, 4);
        x.tell(0, 2, 3);
        refused("3rd rule, not the same two", UNSUPPORTED, () -> x.tell(3, 1, 1));
        due("0th rule", x.tell(0, 2, 4), 60);
        due("3rd rule in a row", x.tell(3, 1, 1), 59);
        due("3rd rule in a row", x.tell(3, 3, 2), 58);
        refused("3rd rule, another value", UNSUPPORTED, () -> x.tell(3, 1, 3));
        refused("3rd rule, a cell of the two", UNSUPPORTED, () -> x.tell(3, 0, 1));
        refused("3rd rule, the other cell of the two", UNSUPPORTED, () -> x.tell(3, 2, 2));
        refused("3rd rule, another line", UNSUPPORTED, () -> x.tell(3, 4, 1));
        x.give(0, 12, 2);
        x.tell(0, 12, 3);
        x.tell(0, 12, 4);
        due("3rd rule in a column", x.tell(3, 4, 1), 55);
        x.tell(0, 2, 1);
        x.tell(1, 0, 2);
        x.tell(0, 12, 1);
        refused("3rd rule, one candidate each", UNSUPPORTED, () -> x.tell(3, 8, 2));
    }

    private static void tellCages() {
        Pegboardry x = withEmptyPuzzle();
        x.begin(0);
        refused("4th rule without cages", UNSUPPORTED, () -> x.tell(4, 0, 4));
        x.addCage(0, 1 | 1 << 1, 3);
        due("4th rule, a cage behind the beginning", x.tell(4, 0, 4), 63);
        due("4th rule", x.tell(4, 0, 3), 62);
        refused("4th rule, a value that can be", UNSUPPORTED, () -> x.tell(4, 0, 2));
        refused("4th rule, no cage of the cell", UNSUPPORTED, () -> x.tell(4, 2, 4));
        x.addCage(0, 1 << 10 | 1 << 15, 2);
        refused("4th rule, equal values in no line", UNSUPPORTED, () -> x.tell(4, 10, 1));
        x.addCage(0, 1 << 2 | 1 << 3, 4);
        due("4th rule, equal values in a row", x.tell(4, 2, 2), 61);
        x.addCage(0, 1 << 4 | 1 << 8, 6);
        due("4th rule, equal values in a column", x.tell(4, 8, 3), 60);
        due("4th rule, as candidates are", x.tell(4, 3, 2), 59);
        x.addCage(0, 1 << 12 | 1 << 13 | 1 << 14, 9);
        due("4th rule, three cells", x.tell(4, 12, 1), 58);
        refused("4th rule, three cells", UNSUPPORTED, () -> x.tell(4, 12, 4));
        x.addCage(0, 1 << 5 | 1 << 6 | 1 << 9 | 1 << 11, 16);
        for (int value = 1; value <= 4; value++) {
            due("4th rule, four cells that can't be filled", x.tell(4, 5, value), 58 - value);
        }
        due("candidates of a cell without", x.candidates(5), 0);
        refused("tell of a cell without", UNSUPPORTED, () -> x.tell(4, 5, 1));
        due("reason", x.reason(), 1);
        due("4th rule, an other cell without candidates", x.tell(4, 6, 4), 53);
    }

    private static void reason() {
        Pegboardry x = withEmptyPuzzle();
        due("reason() before a proof", x.reason(), 0);
        refused("tell before a proof", STATE, () -> x.tell(0, 0, 1));
        due("reason() before a proof", x.reason(), 0);
        x.give(0, 0, 1);
        x.begin(0);
        due("reason() of a new proof", x.reason(), 0);
        refused("tell(0, 0, 1)", UNSUPPORTED, () -> x.tell(0, 0, 1));
        due("reason() by the rule", x.reason(), 2);
        due("tell(0, 0, 2)", x.tell(0, 0, 2), 63);
        due("reason() behind a step", x.reason(), 2);
        refused("tell(3, 0, 2)", UNSUPPORTED, () -> x.tell(3, 0, 2));
        due("reason() of a gone candidate", x.reason(), 1);
        refused("tell(0, 0, 0)", ARGUMENT, () -> x.tell(0, 0, 0));
        due("reason() behind a wrong value", x.reason(), 1);
        x.begin(0);
        due("reason() of the next proof", x.reason(), 0);
    }

    private static void candidates() {
        Pegboardry x = withSquare(15);
        refused("candidates(0) without a proof", STATE, () -> x.candidates(0));
        refused("candidates(16) without a proof", INDEX, () -> x.candidates(16));
        x.begin(0);
        x.tell(0, 15, 2);
        due("candidates(15)", x.candidates(15), 13);
        x.tell(0, 15, 4);
        due("candidates(15)", x.candidates(15), 5);
        due("candidates(14)", x.candidates(14), 15);
        refused("candidates(-1)", INDEX, () -> x.candidates(-1));
        refused("candidates(16)", INDEX, () -> x.candidates(16));
    }

    private static void isWhole() {
        Pegboardry x = withSquare(15);
        refused("isWhole() without a proof", STATE, () -> x.isWhole());
        x.begin(0);
        for (int i = 0; i < 48; i++) {
            due("isWhole() at step " + i, x.isWhole(), false);
            int step = x.stepAt(0, i);
            x.tell(step / 100, step % 100 / 5 - (step % 5 == 0 ? 1 : 0), step % 5);
        }
        due("isWhole()", x.isWhole(), true);
        x.give(0, 0, 4);
        due("isWhole() behind a give", x.isWhole(), true);
        due("one step more", x.tell(0, 0, 1), 15);
        due("isWhole() with a cell without", x.isWhole(), false);
    }

    private static void mark() {
        Pegboardry x = withSquare(0);
        due("mark(0, 0, 3)", x.mark(0, 0, 3), 0);
        due("mark(0, 0, 4)", x.mark(0, 0, 4), 3);
        due("mark(0, 0, 0)", x.mark(0, 0, 0), 4);
        due("mark(0, 15, 1)", x.mark(0, 15, 1), 0);
        due("given", x.given(0, 0), 1);
        refused("mark(-1, 0, 1)", INDEX, () -> x.mark(-1, 0, 1));
        refused("mark(1, 16, 5)", INDEX, () -> x.mark(1, 16, 5));
        refused("mark(0, -1, 5)", INDEX, () -> x.mark(0, -1, 5));
        refused("mark(0, 16, 1)", INDEX, () -> x.mark(0, 16, 1));
        refused("mark(0, 15, -1)", ARGUMENT, () -> x.mark(0, 15, -1));
        refused("mark(0, 15, 5)", ARGUMENT, () -> x.mark(0, 15, 5));
        due("marked", x.marked(0, 15), 1);
    }

    private static void marked() {
        Pegboardry x = withSquare(3);
        due("marked(0, 1) of a given cell", x.marked(0, 1), 0);
        x.mark(0, 1, 4);
        x.mark(0, 9, 2);
        due("marked(0, 1)", x.marked(0, 1), 4);
        due("marked(0, 9)", x.marked(0, 9), 2);
        x.give(0, 9, 1);
        due("marked(0, 9) behind a give", x.marked(0, 9), 2);
        refused("marked(-1, 0)", INDEX, () -> x.marked(-1, 0));
        refused("marked(1, 0)", INDEX, () -> x.marked(1, 0));
        refused("marked(0, -1)", INDEX, () -> x.marked(0, -1));
        refused("marked(0, 16)", INDEX, () -> x.marked(0, 16));
    }

    private static void wrong() {
        Pegboardry x = withSquare(14);
        refused("wrong without marks", NO_ELEMENT, () -> x.wrong(0));
        x.mark(0, 15, 1);
        refused("wrong with a right mark", NO_ELEMENT, () -> x.wrong(0));
        x.mark(0, 15, 4);
        due("wrong(0)", x.wrong(0), 15);
        x.mark(0, 12, 3);
        due("wrong(0), also a given cell", x.wrong(0), 12);
        Pegboardry y = withSquare(7);
        y.mark(0, 0, 4);
        refused("wrong with two solutions", NO_ELEMENT, () -> y.wrong(0));
        y.give(0, 8, 2);
        due("wrong with just one", withMarkOn(10).wrong(0), 0);
        y.give(0, 8, 1);
        refused("wrong with none", NO_ELEMENT, () -> y.wrong(0));
        refused("wrong(-1)", INDEX, () -> x.wrong(-1));
        refused("wrong(1)", INDEX, () -> x.wrong(1));
    }

    private static Pegboardry withMarkOn(int lastGiven) {
        Pegboardry x = withSquare(lastGiven);
        x.mark(0, 0, 4);
        return x;
    }

    private static void hint() {
        Pegboardry x = withSquare(10);
        due("hint(0): the fourth in its row is settled first", x.hint(0), 113);
        x.mark(0, 11, 3);
        due("hint(0), that one marked", x.hint(0), 124);
        x.give(0, 12, 4);
        due("hint(0), that one given", x.hint(0), 133);
        x.mark(0, 13, 3);
        due("hint(0)", x.hint(0), 142);
        x.mark(0, 14, 2);
        due("hint(0)", x.hint(0), 151);
        x.mark(0, 15, 1);
        refused("hint(0), all given or marked", NO_ELEMENT, () -> x.hint(0));
        x.mark(0, 15, 2);
        refused("hint(0), all given or marked, one wrong", UNSUPPORTED, () -> x.hint(0));
        refused("hint of a square", NO_ELEMENT, () -> withSquare(15).hint(0));
        refused("hint without givens", UNSUPPORTED, () -> withEmptyPuzzle().hint(0));
        refused("hint of a broken one", UNSUPPORTED, () -> clashed().hint(0));
        refused("hint with a wrong mark on a given", UNSUPPORTED, () -> withMarkOn(14).hint(0));
        refused("hint(-1)", INDEX, () -> x.hint(-1));
        refused("hint(1)", INDEX, () -> x.hint(1));
        hintsInOtherOrder();
        hintsByCages();
    }

    /** Which of the five open cells is settled first is told by the steps: each comes to one candidate by its third. */
    private static void hintsInOtherOrder() {
        Pegboardry x = withSquare(15);
        x.give(0, 0, 0);
        x.give(0, 1, 0);
        x.give(0, 4, 0);
        x.give(0, 5, 0);
        x.give(0, 6, 0);
        due("hint by the steps", x.hint(0), firstSettled(x));
        x.mark(0, firstSettled(x) / 10, firstSettled(x) % 10);
        due("hint differs behind a mark", x.hint(0) != firstSettled(x), true);
    }

    /** No cell is given: the two cells with the sum 2 settle the first hint, and cell 7 goes with cell 0. */
    private static void hintsByCages() {
        Pegboardry x = caged(1 | 1 << 9, 2);
        x.addCage(0, 1 << 2 | 1 << 12 | 1 << 14, 9);
        x.addCage(0, 1 << 2 | 1 << 12 | 1 << 15, 8);
        x.addCage(0, 1 | 1 << 1 | 1 << 9 | 1 << 10, 8);
        x.addCage(0, 1 | 1 << 7, 3);
        x.addCage(0, 1 | 1 << 4 | 1 << 12, 8);
        due("hint by cages", x.hint(0), 1);
        x.mark(0, 0, 1);
        due("hint by cages, that one marked", x.hint(0), 72);
    }

    private static int firstSettled(Pegboardry x) {
        int[] left = new int[16];
        for (int i = 0; i < x.steps(0); i++) {
            int cell = (x.stepAt(0, i) % 100 - 1) / 5;
            left[cell]++;
            if (left[cell] == 3 && x.given(0, cell) == 0) {
                return 10 * cell + x.solution(0, cell);
            }
        }
        return -1;
    }

    private static void checksum() {
        Pegboardry x = withEmptyPuzzle();
        due("checksum without givens", x.checksum(), 0L);
        x.give(0, 15, 3);
        due("checksum with a given", x.checksum(), 3L);
        x.mark(0, 15, 2);
        due("checksum with a mark", x.checksum(), 13L);
        x.give(0, 14, 1);
        due("checksum with two cells", x.checksum(), 44L);
        x.puzzle();
        long sum = 44;
        for (int cell = 0; cell < 16; cell++) {
            sum *= 31;
        }
        due("checksum with two puzzles", x.checksum(), sum);
        x.give(1, 15, 4);
        due("checksum with two puzzles", x.checksum(), sum + 4);
        refused("refused give", ARGUMENT, () -> x.give(1, 15, 5));
        due("checksum behind a refused give", x.checksum(), sum + 4);
    }

    private static void solvedShare() {
        refused("solvedShare without puzzles", ARITHMETIC, () -> new Pegboardry().solvedShare());
        Pegboardry x = withSquare(14);
        due("solvedShare of one", x.solvedShare(), 1.0f);
        x.puzzle();
        due("solvedShare of two", x.solvedShare(), 0.5f);
        x.puzzle();
        due("solvedShare of three", x.solvedShare(), 1.0f / 3.0f);
        x.give(2, 0, 1);
        x.give(2, 1, 1);
        due("solvedShare with a broken one", x.solvedShare(), 1.0f / 3.0f);
        x.give(0, 15, 4);
        due("solvedShare of none solved", x.solvedShare(), 0.0f);
    }

    private static void meanGivens() {
        refused("meanGivens without puzzles", ARITHMETIC, () -> new Pegboardry().meanGivens());
        Pegboardry x = withSquare(15);
        due("meanGivens of one", x.meanGivens(), 16.0);
        x.puzzle();
        x.puzzle();
        due("meanGivens of three", x.meanGivens(), 16.0 / 3.0);
        x.give(1, 3, 3);
        due("meanGivens of three", x.meanGivens(), 17.0 / 3.0);
        x.mark(1, 4, 3);
        due("meanGivens with a mark", x.meanGivens(), 17.0 / 3.0);
    }

    private static void isSound() {
        due("isSound without puzzles", new Pegboardry().isSound(), true);
        Pegboardry x = withSquare(14);
        due("isSound of a solved one", x.isSound(), true);
        x.give(0, 15, 4);
        due("isSound of a broken one", x.isSound(), true);
        x.puzzle();
        x.addCage(1, 0x0033, 16);
        x.make(77, 3);
        due("isSound of several", x.isSound(), true);
    }
}
