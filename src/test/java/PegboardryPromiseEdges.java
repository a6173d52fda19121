import java.math.BigInteger;

/** A test for each sentence of the promises 1 to 28 that names a boundary case. */
public final class PegboardryPromiseEdges extends Edges {
    private static final int[] FOUR_GIVENS = {0, 0, 1, 4, 0, 0, 0, 1, 0, 0, 0, 0, 2, 0, 0, 0};
    private static final int[] NO_PUZZLES = {-1, 1, 7, 8, MIN, MAX};
    private static final int[] NO_VALUES = {-1, 5, MIN, MAX};

    /** A call with the number of a puzzle. */
    private interface Asked {
        Object of(int puzzle);
    }

    public static void main(String[] args) {
        newObject();
        puzzle();
        give();
        addCage();
        make();
        given();
        givens();
        solutions();
        solution();
        solve();
        stepCounts();
        stepAt();
        grade();
        isMinimal();
        areAlike();
        begin();
        tell();
        reason();
        candidates();
        isWhole();
        mark();
        marked();
        wrong();
        hint();
        checksum();
        solvedShare();
        meanGivens();
        isSound();
        end();
    }

    /** "Throws IndexOutOfBoundsException if there is no such puzzle": without puzzles, and with just one. */
    private static void noPuzzle(Asked asked, Asked askedWithNone) {
        edge("Throws `IndexOutOfBoundsException` if there is no such puzzle", () -> {
            due("an answer of the puzzle 0", asked.of(0) instanceof Class, false);
            for (int none : NO_PUZZLES) {
                refused("of the puzzle " + none, INDEX, () -> asked.of(none));
            }
            for (int none : new int[] {0, -1, 1}) {
                refused("of the puzzle " + none + " without any", INDEX, () -> askedWithNone.of(none));
            }
        });
    }

    private static Pegboardry solvedByCages() {
        Pegboardry x = withEmpty();
        x.addCage(0, cells(1, 2, 3, 9), 13);
        x.addCage(0, cells(0, 6, 10, 15), 11);
        return x;
    }

    /** A puzzle with just one solution, that is not solved by rules: 2341 4132 3214 1423. */
    private static Pegboardry solvedByTryingAlone() {
        Pegboardry x = with(new int[] {0, 0, 0, 0, 0, 0, 0, 0, 0, 0, 1});
        x.addCage(0, cells(0, 9, 11, 15), 11);
        x.addCage(0, cells(0, 5, 8, 14), 8);
        return x;
    }

    // Puzzles

    private static void newObject() {
        in("Promise 1");
        edge("Creates a house without puzzles.", () -> {
            Pegboardry before = with(SQUARE);
            before.begin(0);
            Pegboardry x = new Pegboardry();
            refused("givens(0)", INDEX, () -> x.givens(0));
            refused("solvedShare()", ARITHMETIC, () -> x.solvedShare());
            refused("candidates(0)", STATE, () -> x.candidates(0));
            due("checksum()", x.checksum(), 0L);
            due("reason()", x.reason(), 0);
            due("isSound()", x.isSound(), true);
            due("puzzle()", x.puzzle(), 0);
            due("givens(0) of an object before", before.givens(0), 16);
        });
    }

    private static void puzzle() {
        in("Promise 2");
        edge("Adds a puzzle without givens and cages.", () -> {
            Pegboardry x = with(SQUARE);
            x.addCage(0, 3, 3);
            x.mark(0, 0, 1);
            due("puzzle()", x.puzzle(), 1);
            for (int cell = 0; cell < 16; cell++) {
                due("given(1, " + cell + ")", x.given(1, cell), 0);
                due("marked(1, " + cell + ")", x.marked(1, cell), 0);
            }
            due("areAlike(1, 1), without cages", x.areAlike(1, 1), true);
            due("the first cage", x.addCage(1, 3, 3), 1);
        });
        edge("Returns the number of the puzzle.", () -> {
            Pegboardry x = new Pegboardry();
            due("the first puzzle()", x.puzzle(), 0);
            due("the second puzzle()", x.puzzle(), 1);
            due("a make between", x.make(0, 1), 2);
            due("the third puzzle()", x.puzzle(), 3);
        });
        edge("Throws `IllegalStateException` if there are 8 puzzles", () -> {
            Pegboardry x = new Pegboardry();
            for (int i = 0; i < 8; i++) {
                due("puzzle()", x.puzzle(), i);
            }
            refused("the 9th puzzle()", STATE, () -> x.puzzle());
            refused("and again", STATE, () -> x.puzzle());
            Pegboardry y = new Pegboardry();
            for (int i = 0; i < 7; i++) {
                y.make(i, 2);
            }
            due("puzzle() with 7 that are made", y.puzzle(), 7);
            refused("puzzle() with 8", STATE, () -> y.puzzle());
        });
    }

    private static void give() {
        in("Promise 3");
        edge("Gives the value of a cell, or takes the given away.", () -> {
            Pegboardry x = withEmpty();
            x.give(0, 0, 1);
            due("given(0, 0)", x.given(0, 0), 1);
            x.give(0, 0, 4);
            due("given(0, 0) when it is another", x.given(0, 0), 4);
            x.give(0, 0, 0);
            due("given(0, 0) when it is taken away", x.given(0, 0), 0);
            due("givens(0)", x.givens(0), 0);
            due("solve(0)", x.solve(0), 'n');
        });
        edge("`cell`: the cell, 0 to 15", () -> {
            Pegboardry x = withEmpty();
            for (int cell = 0; cell < 16; cell++) {
                due("give(0, " + cell + ", 2)", x.give(0, cell, 2), 0);
                due("given(0, " + cell + ")", x.given(0, cell), 2);
                due("givens(0)", x.givens(0), cell + 1);
            }
        });
        edge("`value`: the value, 1 to 4, or 0 for none", () -> {
            Pegboardry x = withEmpty();
            for (int value = 0; value <= 4; value++) {
                x.give(0, 9, value);
                due("given(0, 9)", x.given(0, 9), value);
            }
        });
        edge("Returns the given before, 0 if there was none.", () -> {
            Pegboardry x = withEmpty();
            due("give(0, 3, 0) when there is none", x.give(0, 3, 0), 0);
            due("give(0, 3, 4)", x.give(0, 3, 4), 0);
            due("give(0, 3, 4) again", x.give(0, 3, 4), 4);
            due("give(0, 3, 1)", x.give(0, 3, 1), 4);
            due("give(0, 3, 0)", x.give(0, 3, 0), 1);
            x.mark(0, 3, 2);
            due("give(0, 3, 3) of a marked cell", x.give(0, 3, 3), 0);
        });
        edge("Throws `IndexOutOfBoundsException` if there is no such puzzle or cell", () -> {
            Pegboardry x = withEmpty();
            for (int none : NO_PUZZLES) {
                refused("give(" + none + ", 0, 1)", INDEX, () -> x.give(none, 0, 1));
            }
            for (int none : NO_CELLS) {
                refused("give(0, " + none + ", 1)", INDEX, () -> x.give(0, none, 1));
                refused("give(0, " + none + ", 0)", INDEX, () -> x.give(0, none, 0));
            }
            refused("give(0, 0, 1) without puzzles", INDEX, () -> new Pegboardry().give(0, 0, 1));
        });
        edge("Throws `IllegalArgumentException` if there is no such value", () -> {
            Pegboardry x = withEmpty();
            for (int none : NO_VALUES) {
                refused("give(0, 15, " + none + ")", ARGUMENT, () -> x.give(0, 15, none));
            }
        });
    }

    private static void addCage() {
        in("Promise 4");
        edge("`cells`: the cells, as the sum of 2 to the power of each", () -> {
            for (int cell = 0; cell < 15; cell++) {
                Pegboardry x = withEmpty();
                due("addCage", x.addCage(0, (1 << cell) + 32768, 2), 1);
                x.begin(0);
                takes(x, 4, cell, 4);
                takes(x, 4, 15, 4);
                keeps(x, 4, (cell + 1) % 15, 4);
            }
        });
        edge("`sum`: the sum, 2 to 16", () -> {
            for (int sum = 2; sum <= 16; sum++) {
                Pegboardry x = withEmpty();
                due("addCage(0, 33825, " + sum + ")", x.addCage(0, cells(0, 5, 10, 15), sum), 1);
                due("solutions(0)", x.solutions(0), sum < 4 || sum == 5 || sum == 15 ? 0 : 2);
            }
        });
        edge("Returns how many cages it has.", () -> {
            Pegboardry x = withEmpty();
            x.puzzle();
            for (int count = 1; count <= 6; count++) {
                due("addCage(0, 3, 3)", x.addCage(0, 3, 3), count);
            }
            due("addCage(1, 3, 3)", x.addCage(1, 3, 3), 1);
        });
        noPuzzle(puzzle -> withEmpty().addCage(puzzle, 3, 3), puzzle -> new Pegboardry().addCage(puzzle, 3, 3));
        edge("Throws `IllegalArgumentException` if the sum is out of range, or there are not 2 to 4 cells of these 16",
                () -> {
            Pegboardry x = withEmpty();
            for (int sum : new int[] {1, 17, 0, -1, -5, MIN, MAX}) {
                refused("addCage(0, 3, " + sum + ")", ARGUMENT, () -> x.addCage(0, 3, sum));
            }
            for (int cells : new int[] {0, 1, 32768, 31, 65535, 65536, 65537, 98304, 196608, -1, MIN, MIN + 3, MAX}) {
                refused("addCage(0, " + cells + ", 5)", ARGUMENT, () -> x.addCage(0, cells, 5));
            }
            due("two cells", x.addCage(0, 49152, 5), 1);
            due("four cells", x.addCage(0, 61440, 10), 2);
        });
        edge("Throws `UnsupportedOperationException` if it has 6 cages", () -> {
            Pegboardry x = withEmpty();
            for (int count = 1; count <= 6; count++) {
                due("addCage(0, 3, 3)", x.addCage(0, 3, 3), count);
            }
            refused("the 7th cage", UNSUPPORTED, () -> x.addCage(0, 3, 3));
            refused("and again", UNSUPPORTED, () -> x.addCage(0, 12, 3));
        });
    }

    private static void make() {
        in("Promise 5");
        edge("`seed`: the seed, 0 to 9999", () -> {
            Pegboardry x = new Pegboardry();
            due("make(0, 1)", x.make(0, 1), 0);
            due("make(9999, 1)", x.make(9999, 1), 1);
            due("givens(0)", x.givens(0), 6);
            due("given(0, 2)", x.given(0, 2), 1);
            due("givens(1)", x.givens(1), 6);
            due("given(1, 13)", x.given(1, 13), 1);
        });
        edge("`highest`: the highest rule, 1 to 3", () -> {
            Pegboardry x = new Pegboardry();
            for (int highest = 1; highest <= 3; highest++) {
                due("make(61, " + highest + ")", x.make(61, highest), highest - 1);
                due("solve", x.solve(highest - 1), 's');
            }
        });
        edge("Returns the number of the puzzle.", () -> {
            Pegboardry x = withEmpty();
            due("make(7, 1) when there is one", x.make(7, 1), 1);
            due("givens(0) of the one", x.givens(0), 0);
            for (int i = 2; i < 8; i++) {
                due("make(7, 1)", x.make(7, 1), i);
            }
            due("givens(7)", x.givens(7), 6);
        });
        edge("Throws `IllegalArgumentException` if a number is out of range", () -> {
            Pegboardry x = new Pegboardry();
            for (int seed : new int[] {-1, 10000, MIN, MAX}) {
                refused("make(" + seed + ", 1)", ARGUMENT, () -> x.make(seed, 1));
                refused("make(" + seed + ", 0)", ARGUMENT, () -> x.make(seed, 0));
            }
            for (int highest : new int[] {0, 4, -1, 5, MIN, MAX}) {
                refused("make(1, " + highest + ")", ARGUMENT, () -> x.make(1, highest));
            }
        });
        edge("Throws `IllegalStateException` if there are 8 puzzles", () -> {
            Pegboardry x = new Pegboardry();
            for (int i = 0; i < 7; i++) {
                x.puzzle();
            }
            due("make(9, 3) with 7", x.make(9, 3), 7);
            refused("make(9, 3) with 8", STATE, () -> x.make(9, 3));
        });
    }

    private static void given() {
        in("Promise 6");
        edge("`cell`: the cell, 0 to 15", () -> {
            Pegboardry x = with(SQUARE);
            for (int cell = 0; cell < 16; cell++) {
                due("given(0, " + cell + ")", x.given(0, cell), SQUARE[cell]);
            }
        });
        edge("Returns the value, 0 if there is none.", () -> {
            Pegboardry x = with(squareBut(15, 0));
            due("given(0, 15)", x.given(0, 15), 0);
            due("given(0, 14)", x.given(0, 14), 2);
            x.mark(0, 15, 1);
            due("given(0, 15), a marked cell", x.given(0, 15), 0);
        });
        edge("Throws `IndexOutOfBoundsException` if there is no such puzzle or cell", () -> {
            Pegboardry x = with(SQUARE);
            for (int none : NO_PUZZLES) {
                refused("given(" + none + ", 0)", INDEX, () -> x.given(none, 0));
            }
            for (int none : NO_CELLS) {
                refused("given(0, " + none + ")", INDEX, () -> x.given(0, none));
            }
            refused("given(0, 0) without puzzles", INDEX, () -> new Pegboardry().given(0, 0));
        });
    }

    private static void givens() {
        in("Promise 7");
        edge("Returns how many cells are given.", () -> {
            due("givens(0) of none", withEmpty().givens(0), 0);
            due("givens(0) of all", with(SQUARE).givens(0), 16);
            Pegboardry x = with(FOUR_GIVENS, first(1), new int[16]);
            due("givens(0)", x.givens(0), 4);
            due("givens(1)", x.givens(1), 1);
            x.mark(2, 0, 1);
            due("givens(2), with a mark", x.givens(2), 0);
            x.give(0, 2, 3);
            due("givens(0), with another value", x.givens(0), 4);
            x.give(0, 2, 0);
            due("givens(0), with one taken away", x.givens(0), 3);
        });
        noPuzzle(puzzle -> with(SQUARE).givens(puzzle), puzzle -> new Pegboardry().givens(puzzle));
    }

    // Solutions and steps

    private static void solutions() {
        in("Promise 8");
        edge("Returns 0, 1, or 2 if there is more than one.", () -> {
            due("solutions(0) of an empty one, with 576", withEmpty().solutions(0), 2);
            Pegboardry x = with(first(9));
            due("solutions(0), with two", x.solutions(0), 2);
            x.give(0, 9, 1);
            due("solutions(0), with one", x.solutions(0), 1);
            x.addCage(0, cells(0, 15), 3);
            due("solutions(0), with none by a cage", x.solutions(0), 0);
            due("solutions(0) of a square", with(SQUARE).solutions(0), 1);
            due("solutions(0) of a square that clashes", with(squareBut(0, 2)).solutions(0), 0);
            due("solutions(0) by cages alone", solvedByCages().solutions(0), 1);
            due("solutions(0) that rules don't find", solvedByTryingAlone().solutions(0), 1);
        });
        noPuzzle(puzzle -> with(SQUARE).solutions(puzzle), puzzle -> new Pegboardry().solutions(puzzle));
    }

    private static void solution() {
        in("Promise 9");
        edge("`cell`: the cell, 0 to 15", () -> {
            Pegboardry x = with(first(11));
            for (int cell = 0; cell < 16; cell++) {
                due("solution(0, " + cell + ")", x.solution(0, cell), SQUARE[cell]);
            }
            int[] tried = {2, 3, 4, 1, 4, 1, 3, 2, 3, 2, 1, 4, 1, 4, 2, 3};
            for (int cell = 0; cell < 16; cell++) {
                due("solution(0, " + cell + ")", solvedByTryingAlone().solution(0, cell), tried[cell]);
            }
        });
        edge("Throws `IndexOutOfBoundsException` if there is no such puzzle or cell", () -> {
            Pegboardry x = with(SQUARE);
            for (int none : NO_PUZZLES) {
                refused("solution(" + none + ", 0)", INDEX, () -> x.solution(none, 0));
            }
            for (int none : NO_CELLS) {
                refused("solution(0, " + none + ")", INDEX, () -> x.solution(0, none));
            }
            refused("solution(0, 0) without puzzles", INDEX, () -> new Pegboardry().solution(0, 0));
        });
        edge("Throws `NoSuchElementException` if there is not just one solution", () -> {
            refused("solution(0, 0) with 576", NO_ELEMENT, () -> withEmpty().solution(0, 0));
            refused("solution(0, 0) with two", NO_ELEMENT, () -> with(first(9)).solution(0, 0));
            refused("solution(0, 0) with none", NO_ELEMENT, () -> with(squareBut(15, 2)).solution(0, 0));
            Pegboardry x = with(SQUARE);
            due("solution(0, 15) with one", x.solution(0, 15), 1);
            x.give(0, 0, 2);
            refused("solution(0, 15) behind a give", NO_ELEMENT, () -> x.solution(0, 15));
            x.give(0, 0, 0);
            x.addCage(0, 3, 4);
            refused("solution(0, 15) behind a cage", NO_ELEMENT, () -> x.solution(0, 15));
        });
    }

    private static void solve() {
        in("Promise 10");
        edge("Solves a puzzle by rules, up to the 4th.", () -> {
            due("solve(0) of a puzzle that needs the 4th", solvedByCages().solve(0), 's');
            due("solve(0) of a puzzle that needs more", solvedByTryingAlone().solve(0), 'n');
        });
        edge("Returns 's' solved, 'b' broken, 'n' neither.", () -> {
            due("solve(0) of a square", with(SQUARE).solve(0), 's');
            due("solve(0) of four givens", with(FOUR_GIVENS).solve(0), 's');
            due("solve(0) without givens", withEmpty().solve(0), 'n');
            due("solve(0) of two solutions", with(first(9)).solve(0), 'n');
            due("solve(0) of a clash", with(squareBut(15, 2)).solve(0), 'b');
            Pegboardry x = with(SQUARE);
            x.addCage(0, cells(0, 15), 3);
            due("solve(0) of a square with a cage that has another sum", x.solve(0), 'b');
        });
        noPuzzle(puzzle -> with(SQUARE).solve(puzzle), puzzle -> new Pegboardry().solve(puzzle));
    }

    private static void stepCounts() {
        in("Promise 11");
        edge("Returns how many steps this takes.", () -> {
            due("steps(0) without givens", withEmpty().steps(0), 0);
            due("steps(0) of one given", with(first(1)).steps(0), 9);
            due("steps(0) of a square", with(SQUARE).steps(0), 48);
            due("steps(0) of four givens", with(FOUR_GIVENS).steps(0), 48);
            due("steps(0) of two solutions", with(first(9)).steps(0), 44);
            due("steps(0) of a clash", with(new int[] {1, 1}).steps(0), 7);
            due("steps(0) of a clash in a full square", with(squareBut(15, 2)).steps(0), 49);
            Pegboardry x = with(SQUARE);
            x.give(0, 15, 0);
            x.give(0, 11, 0);
            due("steps(0) behind a give", x.steps(0), 48);
            x.addCage(0, cells(11, 15), 5);
            due("steps(0) behind a cage that has another sum", x.steps(0), 49);
        });
        noPuzzle(puzzle -> with(SQUARE).steps(puzzle), puzzle -> new Pegboardry().steps(puzzle));
    }

    private static void stepAt() {
        in("Promise 12");
        edge("`step`: the step, from 0", () -> {
            due("stepAt(0, 0) of a square", with(SQUARE).stepAt(0, 0), 2);
            due("stepAt(0, 47) of a square", with(SQUARE).stepAt(0, 47), 79);
            due("stepAt(0, 48) of a clash", with(squareBut(15, 2)).stepAt(0, 48), 137);
        });
        edge("Returns 100 times the rule plus 5 times the cell plus the value.", () -> {
            due("the value 1 of the cell 0 by the 0th", with(new int[] {2}).stepAt(0, 0), 1);
            due("the value 4 of the cell 0 by the 0th", with(first(1)).stepAt(0, 2), 4);
            due("the value 1 of the cell 1 by the 1st", with(first(1)).stepAt(0, 3), 106);
            due("the value 4 of the cell 15 by the 0th", with(SQUARE).stepAt(0, 47), 79);
            due("the value 2 of the cell 0 by the 2nd", solvedByCages().stepAt(0, 4), 202);
            Pegboardry pairs = with(new int[] {0, 0, 0, 0, 3, 0, 4, 0, 0, 0, 0, 0, 4, 0, 3});
            due("the value 1 of the cell 1 by the 3rd", pairs.stepAt(0, 28), 306);
            due("the value 2 of the cell 11 by the 3rd", pairs.stepAt(0, 35), 357);
            Pegboardry cage = withEmpty();
            cage.addCage(0, cells(0, 15), 8);
            due("the value 1 of the cell 0 by the 4th", cage.stepAt(0, 0), 401);
        });
        noPuzzle(puzzle -> with(SQUARE).stepAt(puzzle, 0), puzzle -> new Pegboardry().stepAt(puzzle, 0));
        edge("Throws `NoSuchElementException` if there is no such step", () -> {
            Pegboardry x = with(SQUARE);
            for (int none : new int[] {-1, 48, 49, 64, MIN, MAX}) {
                refused("stepAt(0, " + none + ")", NO_ELEMENT, () -> x.stepAt(0, none));
            }
            refused("stepAt(0, 0) without steps", NO_ELEMENT, () -> withEmpty().stepAt(0, 0));
            refused("stepAt(0, 7) of a clash", NO_ELEMENT, () -> with(new int[] {1, 1}).stepAt(0, 7));
            x.give(0, 0, 2);
            x.stepAt(0, 0);
            x.give(0, 0, 0);
            due("stepAt(0, 47) behind a give", x.stepAt(0, 47), 104);
        });
    }

    private static void grade() {
        in("Promise 13");
        noPuzzle(puzzle -> with(SQUARE).grade(puzzle), puzzle -> new Pegboardry().grade(puzzle));
        edge("Throws `UnsupportedOperationException` if it is not solved by rules", () -> {
            refused("grade(0) without givens", UNSUPPORTED, () -> withEmpty().grade(0));
            refused("grade(0) of two solutions", UNSUPPORTED, () -> with(first(9)).grade(0));
            refused("grade(0) of a clash", UNSUPPORTED, () -> with(squareBut(15, 2)).grade(0));
            refused("grade(0) of a solution that rules don't find", UNSUPPORTED, () -> solvedByTryingAlone().grade(0));
            due("grade(0) of a square", with(SQUARE).grade(0), 48);
            due("grade(0) by cages", solvedByCages().grade(0), 412);
        });
    }

    private static void isMinimal() {
        in("Promise 14");
        edge("Returns whether each given is needed: without it, there is not just one solution.", () -> {
            due("isMinimal(0) of four givens", with(FOUR_GIVENS).isMinimal(0), true);
            for (int cell = 0; cell < 16; cell++) {
                Pegboardry x = with(FOUR_GIVENS);
                int value = x.solution(0, cell);
                boolean was = x.give(0, cell, value) == value;
                due("isMinimal(0) with the cell " + cell + " too", x.isMinimal(0), was);
            }
            due("isMinimal(0) of a square", with(SQUARE).isMinimal(0), false);
            due("isMinimal(0) of a given that a cage needs", solvedByTryingAlone().isMinimal(0), true);
            due("isMinimal(0) by cages, without givens", solvedByCages().isMinimal(0), true);
            for (int cell = 0; cell < 16; cell += 15) {
                Pegboardry x = solvedByCages();
                x.give(0, cell, x.solution(0, cell));
                due("isMinimal(0) by cages, with a given that is not needed", x.isMinimal(0), false);
            }
        });
        edge("Returns whether there is just one solution, and this is so.", () -> {
            due("isMinimal(0) without givens", withEmpty().isMinimal(0), false);
            due("isMinimal(0) of two solutions", with(first(9)).isMinimal(0), false);
            due("isMinimal(0) of none", with(new int[] {1, 1}).isMinimal(0), false);
            Pegboardry x = with(FOUR_GIVENS);
            x.isMinimal(0);
            due("the givens are there behind it", x.givens(0), 4);
            due("the solution is there behind it", x.solution(0, 0), 3);
        });
        noPuzzle(puzzle -> with(SQUARE).isMinimal(puzzle), puzzle -> new Pegboardry().isMinimal(puzzle));
    }

    private static void areAlike() {
        in("Promise 15");
        edge("`other`: the number of another one, or the same", () -> {
            Pegboardry x = with(FOUR_GIVENS, SQUARE, FOUR_GIVENS);
            for (int puzzle = 0; puzzle < 3; puzzle++) {
                due("areAlike of the same", x.areAlike(puzzle, puzzle), true);
            }
            due("areAlike(0, 2)", x.areAlike(0, 2), true);
            due("areAlike(0, 1)", x.areAlike(0, 1), false);
            due("areAlike(1, 0)", x.areAlike(1, 0), false);
        });
        edge("Throws `IndexOutOfBoundsException` if there is no such puzzle, for either", () -> {
            Pegboardry x = with(SQUARE);
            for (int none : NO_PUZZLES) {
                refused("areAlike(" + none + ", 0)", INDEX, () -> x.areAlike(none, 0));
                refused("areAlike(0, " + none + ")", INDEX, () -> x.areAlike(0, none));
                refused("areAlike(" + none + ", " + none + ")", INDEX, () -> x.areAlike(none, none));
            }
            refused("areAlike(0, 0) without puzzles", INDEX, () -> new Pegboardry().areAlike(0, 0));
        });
        edge("Throws `UnsupportedOperationException` if one of them has cages", () -> {
            Pegboardry x = with(SQUARE, SQUARE, SQUARE);
            x.addCage(1, 3, 3);
            refused("areAlike(0, 1)", UNSUPPORTED, () -> x.areAlike(0, 1));
            refused("areAlike(1, 0)", UNSUPPORTED, () -> x.areAlike(1, 0));
            refused("areAlike(1, 1)", UNSUPPORTED, () -> x.areAlike(1, 1));
            due("areAlike(0, 2)", x.areAlike(0, 2), true);
            x.addCage(2, 3, 3);
            refused("areAlike(1, 2), both with cages", UNSUPPORTED, () -> x.areAlike(1, 2));
        });
    }

    // Proofs

    private static void begin() {
        in("Promise 16");
        edge("Begins a proof of a puzzle, in place of one that there is.", () -> {
            Pegboardry x = with(SQUARE, new int[] {2});
            x.begin(0);
            takes(x, 0, 0, 2);
            keeps(x, 0, 0, 1);
            x.begin(1);
            due("candidates(0)", x.candidates(0), 15);
            due("reason()", x.reason(), 0);
            takes(x, 0, 0, 1);
            keeps(x, 0, 1, 1);
            x.begin(1);
            due("candidates(0) when the same is begun again", x.candidates(0), 15);
            due("reason() when the same is begun again", x.reason(), 0);
        });
        edge("Returns how many candidates there are.", () -> {
            due("begin(0) without givens", withEmpty().begin(0), 64);
            Pegboardry x = with(SQUARE);
            due("begin(0) of a square", x.begin(0), 64);
            due("a step", x.tell(0, 0, 2), 63);
            due("begin(0) again", x.begin(0), 64);
        });
        noPuzzle(puzzle -> with(SQUARE).begin(puzzle), puzzle -> new Pegboardry().begin(puzzle));
    }

    private static void tell() {
        in("Promise 17");
        edge("`rule`: the rule, 0 to 4", () -> {
            Pegboardry x = with(new int[] {0, 1});
            x.begin(0);
            due("the 0th", x.tell(0, 1, 2), 63);
            x.tell(0, 1, 3);
            x.tell(0, 1, 4);
            due("the 1st", x.tell(1, 0, 1), 60);
            leave(x, 4, 1, 3, 4);
            leave(x, 8, 1, 3, 4);
            leave(x, 12, 1, 3, 4);
            due("the 2nd", x.tell(2, 0, 3), 56);
            leave(x, 5, 3, 4);
            leave(x, 6, 3, 4);
            due("the 3rd", x.tell(3, 7, 4), 51);
            x.addCage(0, cells(10, 15), 8);
            due("the 4th", x.tell(4, 15, 3), 50);
        });
        edge("`cell`: the cell, 0 to 15", () -> {
            Pegboardry x = with(SQUARE);
            x.begin(0);
            for (int cell = 0; cell < 16; cell++) {
                takes(x, 0, cell, 5 - SQUARE[cell]);
            }
        });
        edge("`value`: the value, 1 to 4", () -> {
            Pegboardry x = with(first(1));
            x.begin(0);
            for (int value = 2; value <= 4; value++) {
                takes(x, 0, 0, value);
            }
            takes(x, 1, 3, 1);
        });
        edge("Returns how many candidates are left.", () -> {
            Pegboardry x = with(SQUARE);
            x.begin(0);
            int left = 64;
            for (int step : stepsOf(x, 0)) {
                left--;
                due("tell " + step, x.tell(ruleOf(step), cellOf(step), valueOf(step)), left);
            }
            due("left", left, 16);
            for (int cell = 0; cell < 16; cell++) {
                x.give(0, cell, 5 - SQUARE[cell]);
                due("tell of the last one of the cell", x.tell(0, cell, SQUARE[cell]), 15 - cell);
            }
        });
        tellRefused();
    }

    private static void tellRefused() {
        edge("Throws `IndexOutOfBoundsException` if there is no such cell", () -> {
            Pegboardry x = with(SQUARE);
            x.begin(0);
            for (int none : NO_CELLS) {
                refused("tell(0, " + none + ", 1)", INDEX, () -> x.tell(0, none, 1));
            }
            due("reason()", x.reason(), 0);
        });
        edge("Throws `IllegalArgumentException` if there is no such rule or value", () -> {
            Pegboardry x = with(SQUARE);
            x.begin(0);
            for (int none : NO_VALUES) {
                refused("tell(" + none + ", 0, 2)", ARGUMENT, () -> x.tell(none, 0, 2));
                refused("tell(0, 0, " + none + ")", ARGUMENT, () -> x.tell(0, 0, none));
            }
            refused("tell(0, 0, 0)", ARGUMENT, () -> x.tell(0, 0, 0));
            due("reason()", x.reason(), 0);
        });
        edge("Throws `IllegalStateException` if no proof was begun", () -> {
            refused("tell(0, 0, 2) without puzzles", STATE, () -> new Pegboardry().tell(0, 0, 2));
            Pegboardry x = with(SQUARE);
            refused("tell(0, 0, 2)", STATE, () -> x.tell(0, 0, 2));
            refused("begin(1)", INDEX, () -> x.begin(1));
            refused("tell(0, 0, 2)", STATE, () -> x.tell(0, 0, 2));
            x.begin(0);
            due("tell(0, 0, 2) when it is begun", x.tell(0, 0, 2), 63);
        });
        edge("Throws `UnsupportedOperationException` if the step is refused; nothing changes but the reason", () -> {
            Pegboardry x = with(SQUARE);
            x.begin(0);
            x.tell(0, 0, 2);
            refused("a candidate that is gone", UNSUPPORTED, () -> x.tell(0, 0, 2));
            due("reason()", x.reason(), 1);
            due("candidates(0)", x.candidates(0), 13);
            refused("a rule that does not take it away", UNSUPPORTED, () -> x.tell(1, 0, 3));
            due("reason()", x.reason(), 2);
            due("candidates(0)", x.candidates(0), 13);
            due("the next step", x.tell(0, 0, 3), 62);
            due("checksum() is that of a square", x.checksum(), with(SQUARE).checksum());
        });
    }

    private static void reason() {
        in("Promise 18");
        edge("Returns the reason of the last step that was refused in this proof.", () -> {
            Pegboardry x = with(SQUARE);
            x.begin(0);
            keeps(x, 0, 0, 1);
            x.tell(0, 0, 2);
            due("reason() behind a step that is not refused", x.reason(), 2);
            refused("a candidate that is gone", UNSUPPORTED, () -> x.tell(0, 0, 2));
            due("reason() of the last one", x.reason(), 1);
            refused("no cell", INDEX, () -> x.tell(0, 16, 2));
            refused("no rule", ARGUMENT, () -> x.tell(5, 0, 1));
            due("reason() behind calls that are no steps", x.reason(), 1);
            keeps(x, 4, 15, 4);
            due("reason() of the last one", x.reason(), 2);
        });
        edge("Returns 1 or 2, 0 if none was.", () -> {
            Pegboardry x = with(SQUARE);
            due("reason() before any proof", x.reason(), 0);
            refused("a step before any proof", STATE, () -> x.tell(0, 0, 1));
            due("reason() before any proof", x.reason(), 0);
            x.begin(0);
            due("reason() at the beginning", x.reason(), 0);
            x.tell(0, 0, 2);
            due("reason() behind a step", x.reason(), 0);
            keeps(x, 0, 0, 1);
            due("reason() of a rule", x.reason(), 2);
            refused("begin(1)", INDEX, () -> x.begin(1));
            due("reason() behind a beginning that is refused", x.reason(), 2);
            x.begin(0);
            due("reason() of the next proof", x.reason(), 0);
        });
    }

    private static void candidates() {
        in("Promise 19");
        edge("`cell`: the cell, 0 to 15", () -> {
            Pegboardry x = with(SQUARE);
            x.begin(0);
            for (int step : stepsOf(x, 0)) {
                x.tell(ruleOf(step), cellOf(step), valueOf(step));
            }
            for (int cell = 0; cell < 16; cell++) {
                due("candidates(" + cell + ")", x.candidates(cell), new int[] {0, 1, 2, 4, 8}[SQUARE[cell]]);
            }
        });
        edge("Returns the sum of 1, 2, 4 and 8 for the values 1 to 4.", () -> {
            for (int value = 1; value <= 4; value++) {
                Pegboardry x = withProof();
                due("all", x.candidates(7), 15);
                int gone = value;
                x.give(0, 7, value % 4 + 1);
                x.tell(0, 7, gone);
                due("all but " + value, x.candidates(7), 15 - new int[] {0, 1, 2, 4, 8}[value]);
            }
            Pegboardry x = withProof();
            leave(x, 3);
            due("none", x.candidates(3), 0);
        });
        edge("Throws `IndexOutOfBoundsException` if there is no such cell", () -> {
            Pegboardry x = withProof();
            for (int none : NO_CELLS) {
                refused("candidates(" + none + ")", INDEX, () -> x.candidates(none));
            }
        });
        edge("Throws `IllegalStateException` if no proof was begun", () -> {
            Pegboardry x = with(SQUARE);
            refused("candidates(0)", STATE, () -> x.candidates(0));
            refused("candidates(15)", STATE, () -> x.candidates(15));
            refused("candidates(0) without puzzles", STATE, () -> new Pegboardry().candidates(0));
            x.begin(0);
            due("candidates(0) when it is begun", x.candidates(0), 15);
        });
    }

    private static void isWhole() {
        in("Promise 20");
        edge("Returns whether the proof is whole.", () -> {
            Pegboardry x = with(SQUARE);
            x.begin(0);
            due("isWhole() at the beginning", x.isWhole(), false);
            for (int step : stepsOf(x, 0)) {
                due("isWhole() before the last step", x.isWhole(), false);
                x.tell(ruleOf(step), cellOf(step), valueOf(step));
            }
            due("isWhole() behind the last step", x.isWhole(), true);
            x.begin(0);
            due("isWhole() of the next proof", x.isWhole(), false);
            for (int cell = 0; cell < 16; cell++) {
                leave(x, cell);
            }
            due("isWhole() without candidates", x.isWhole(), false);
        });
        edge("Throws `IllegalStateException` if no proof was begun", () -> {
            refused("isWhole() without puzzles", STATE, () -> new Pegboardry().isWhole());
            Pegboardry x = with(SQUARE);
            refused("isWhole()", STATE, () -> x.isWhole());
            refused("begin(1)", INDEX, () -> x.begin(1));
            refused("isWhole() behind a beginning that is refused", STATE, () -> x.isWhole());
        });
    }

    // Marks and hints

    private static void mark() {
        in("Promise 21");
        edge("Marks a value, or takes a mark away.", () -> {
            Pegboardry x = with(first(1));
            x.mark(0, 5, 3);
            due("marked(0, 5)", x.marked(0, 5), 3);
            due("given(0, 5)", x.given(0, 5), 0);
            x.mark(0, 5, 0);
            due("marked(0, 5) when it is taken away", x.marked(0, 5), 0);
            due("givens(0)", x.givens(0), 1);
        });
        edge("`cell`: the cell, 0 to 15", () -> {
            Pegboardry x = withEmpty();
            for (int cell = 0; cell < 16; cell++) {
                due("mark(0, " + cell + ", 2)", x.mark(0, cell, SQUARE[cell]), 0);
                due("marked(0, " + cell + ")", x.marked(0, cell), SQUARE[cell]);
            }
        });
        edge("`value`: the value, 1 to 4, or 0 for none", () -> {
            Pegboardry x = withEmpty();
            for (int value = 0; value <= 4; value++) {
                x.mark(0, 9, value);
                due("marked(0, 9)", x.marked(0, 9), value);
            }
        });
        edge("Returns the mark before, 0 if there was none.", () -> {
            Pegboardry x = with(first(4));
            due("mark(0, 3, 0) when there is none", x.mark(0, 3, 0), 0);
            due("mark(0, 3, 2) of a given cell", x.mark(0, 3, 2), 0);
            due("mark(0, 3, 2) again", x.mark(0, 3, 2), 2);
            due("mark(0, 3, 1)", x.mark(0, 3, 1), 2);
            due("mark(0, 3, 0)", x.mark(0, 3, 0), 1);
            due("given(0, 3)", x.given(0, 3), 4);
        });
        edge("Throws `IndexOutOfBoundsException` if there is no such puzzle or cell", () -> {
            Pegboardry x = withEmpty();
            for (int none : NO_PUZZLES) {
                refused("mark(" + none + ", 0, 1)", INDEX, () -> x.mark(none, 0, 1));
            }
            for (int none : NO_CELLS) {
                refused("mark(0, " + none + ", 1)", INDEX, () -> x.mark(0, none, 1));
            }
            refused("mark(0, 0, 1) without puzzles", INDEX, () -> new Pegboardry().mark(0, 0, 1));
        });
        edge("Throws `IllegalArgumentException` if there is no such value", () -> {
            Pegboardry x = withEmpty();
            for (int none : NO_VALUES) {
                refused("mark(0, 15, " + none + ")", ARGUMENT, () -> x.mark(0, 15, none));
            }
        });
    }

    private static void marked() {
        in("Promise 22");
        edge("`cell`: the cell, 0 to 15", () -> {
            Pegboardry x = withEmpty();
            x.mark(0, 0, 4);
            x.mark(0, 15, 1);
            due("marked(0, 0)", x.marked(0, 0), 4);
            due("marked(0, 15)", x.marked(0, 15), 1);
        });
        edge("Returns the value, 0 if there is none.", () -> {
            Pegboardry x = with(first(1), first(1));
            due("marked(0, 0) of a given cell", x.marked(0, 0), 0);
            x.mark(0, 1, 4);
            due("marked(0, 1)", x.marked(0, 1), 4);
            due("marked(1, 1) of another puzzle", x.marked(1, 1), 0);
            x.give(0, 1, 2);
            due("marked(0, 1) behind a give", x.marked(0, 1), 4);
        });
        edge("Throws `IndexOutOfBoundsException` if there is no such puzzle or cell", () -> {
            Pegboardry x = withEmpty();
            for (int none : NO_PUZZLES) {
                refused("marked(" + none + ", 0)", INDEX, () -> x.marked(none, 0));
            }
            for (int none : NO_CELLS) {
                refused("marked(0, " + none + ")", INDEX, () -> x.marked(0, none));
            }
            refused("marked(0, 0) without puzzles", INDEX, () -> new Pegboardry().marked(0, 0));
        });
    }

    private static Pegboardry squareWithMark(int cell, int value) {
        Pegboardry x = with(first(15));
        x.mark(0, cell, value);
        return x;
    }

    private static void wrong() {
        in("Promise 23");
        edge("Returns the lowest cell with a wrong mark.", () -> {
            Pegboardry x = squareWithMark(15, 3);
            due("wrong(0), the last cell", x.wrong(0), 15);
            x.mark(0, 7, 4);
            due("wrong(0), a lower one, although given", x.wrong(0), 7);
            x.mark(0, 1, 2);
            due("wrong(0), with a right one below", x.wrong(0), 7);
            x.mark(0, 0, 2);
            due("wrong(0), the first cell", x.wrong(0), 0);
            x.mark(0, 0, 1);
            due("wrong(0), that one made right", x.wrong(0), 7);
        });
        noPuzzle(puzzle -> squareWithMark(0, 2).wrong(puzzle), puzzle -> new Pegboardry().wrong(puzzle));
        edge("Throws `NoSuchElementException` if there is none", () -> {
            refused("wrong(0) without marks", NO_ELEMENT, () -> with(SQUARE).wrong(0));
            Pegboardry x = with(first(11));
            for (int cell = 0; cell < 16; cell++) {
                x.mark(0, cell, SQUARE[cell]);
            }
            refused("wrong(0) with right marks in all cells", NO_ELEMENT, () -> x.wrong(0));
            Pegboardry many = withEmpty();
            many.mark(0, 0, 1);
            many.mark(0, 1, 1);
            refused("wrong(0) with marks that clash, but many solutions", NO_ELEMENT, () -> many.wrong(0));
            Pegboardry none = with(squareBut(15, 2));
            none.mark(0, 0, 4);
            refused("wrong(0) without solutions", NO_ELEMENT, () -> none.wrong(0));
        });
    }

    private static void hint() {
        in("Promise 24");
        edge("Gives a hint: of the cells that are neither given nor marked, the one that comes to one candidate first, "
                + "as the solver goes.", () -> {
            // The cells come to one candidate in this order, as the steps by cages tell.
            int[] order = {0, 9, 6, 3, 12, 11, 5, 14, 10, 2, 1, 8, 4, 7, 13, 15};
            Pegboardry x = solvedByCages();
            for (int i = 0; i < 16; i++) {
                int cell = order[i];
                int value = x.solution(0, cell);
                due("hint(0) when " + i + " are marked", x.hint(0), 10 * cell + value);
                x.mark(0, cell, value);
            }
            Pegboardry y = with(FOUR_GIVENS);
            due("hint(0), four given", y.hint(0), 3);
            y.mark(0, 0, 3);
            due("hint(0), one marked", y.hint(0), 12);
            y.give(0, 1, 2);
            due("hint(0), another one given", y.hint(0), 44);
            y.mark(0, 0, 0);
            due("hint(0), the mark taken away", y.hint(0), 3);
            y.mark(0, 12, 2);
            due("hint(0), a mark on a given", y.hint(0), 3);
        });
        edge("Returns 10 times the cell plus the value.", () -> {
            due("hint(0) of the cell 0", with(squareBut(0, 0)).hint(0), 1);
            due("hint(0) of the cell 3", with(squareBut(3, 0)).hint(0), 34);
            due("hint(0) of the cell 15", with(squareBut(15, 0)).hint(0), 151);
        });
        noPuzzle(puzzle -> with(first(15)).hint(puzzle), puzzle -> new Pegboardry().hint(puzzle));
        hintRefused();
    }

    private static void hintRefused() {
        edge("Throws `UnsupportedOperationException` if it is not solved by rules, or a mark is wrong", () -> {
            refused("hint(0) without givens", UNSUPPORTED, () -> withEmpty().hint(0));
            refused("hint(0) of a clash", UNSUPPORTED, () -> with(new int[] {1, 1}).hint(0));
            refused("hint(0) of a solution that rules don't find", UNSUPPORTED, () -> solvedByTryingAlone().hint(0));
            refused("hint(0) with a wrong mark", UNSUPPORTED, () -> squareWithMark(15, 4).hint(0));
            refused("hint(0) with a wrong mark on a given", UNSUPPORTED, () -> squareWithMark(0, 4).hint(0));
            Pegboardry x = squareWithMark(0, 4);
            x.mark(0, 0, 1);
            due("hint(0) with that mark made right", x.hint(0), 151);
        });
        edge("Throws `NoSuchElementException` if all cells are given or marked", () -> {
            refused("hint(0) of a square", NO_ELEMENT, () -> with(SQUARE).hint(0));
            refused("hint(0) with the last cell marked", NO_ELEMENT, () -> squareWithMark(15, 1).hint(0));
            due("hint(0) with the last cell neither given nor marked", squareWithMark(14, 2).hint(0), 151);
            Pegboardry x = solvedByCages();
            for (int cell = 0; cell < 16; cell++) {
                x.mark(0, cell, x.solution(0, cell));
            }
            refused("hint(0) with all cells marked", NO_ELEMENT, () -> x.hint(0));
        });
    }

    // Figures

    private static void checksum() {
        in("Promise 25");
        edge("Returns 0 at first, then for each puzzle and cell 31 times itself plus the given, plus 5 times the mark.",
                () -> {
            due("checksum() without puzzles", new Pegboardry().checksum(), 0L);
            due("checksum() of an empty puzzle", withEmpty().checksum(), 0L);
            Pegboardry x = withEmpty();
            x.give(0, 15, 3);
            due("checksum() with a given in the last cell", x.checksum(), 3L);
            x.mark(0, 15, 4);
            due("checksum() with a mark there", x.checksum(), 23L);
            x.mark(0, 14, 1);
            due("checksum() with a mark before", x.checksum(), 178L);
            x.give(0, 14, 2);
            due("checksum() with a given before", x.checksum(), 240L);
            // 31 to the power of 13 is more than 2 to the power of 64.
            Pegboardry all = new Pegboardry();
            BigInteger sum = BigInteger.ZERO;
            for (int puzzle = 0; puzzle < 8; puzzle++) {
                all.puzzle();
                for (int cell = 0; cell < 16; cell++) {
                    int mark = (cell + puzzle) % 5;
                    all.give(puzzle, cell, SQUARE[cell]);
                    all.mark(puzzle, cell, mark);
                    sum = sum.multiply(BigInteger.valueOf(31)).add(BigInteger.valueOf(SQUARE[cell] + 5 * mark));
                }
                due("checksum() with " + (puzzle + 1) + " puzzles, all given", all.checksum(), sum.longValue());
            }
        });
    }

    private static void solvedShare() {
        in("Promise 26");
        edge("Returns their number divided by that of all, both converted to float.", () -> {
            due("solvedShare() of none solved", withEmpty().solvedShare(), 0.0f);
            due("solvedShare() of all solved", with(SQUARE).solvedShare(), 1.0f);
            due("solvedShare() of a clash", with(squareBut(15, 2)).solvedShare(), 0.0f);
            due("solvedShare() of a solution that rules don't find", solvedByTryingAlone().solvedShare(), 0.0f);
            Pegboardry x = with(SQUARE, new int[16], FOUR_GIVENS);
            due("solvedShare() of two in three", x.solvedShare(), 2.0f / 3.0f);
            for (int count = 4; count <= 8; count++) {
                x.puzzle();
                due("solvedShare() of two in " + count, x.solvedShare(), 2.0f / (float) count);
            }
            x.give(0, 15, 2);
            due("solvedShare() of one in eight", x.solvedShare(), 0.125f);
        });
        edge("Throws `ArithmeticException` if there are none", () -> {
            Pegboardry x = new Pegboardry();
            refused("solvedShare()", ARITHMETIC, () -> x.solvedShare());
            x.puzzle();
            due("solvedShare() with one", x.solvedShare(), 0.0f);
        });
    }

    private static void meanGivens() {
        in("Promise 27");
        edge("Returns the sum divided by their number, both converted to double.", () -> {
            due("meanGivens() of none given", withEmpty().meanGivens(), 0.0);
            due("meanGivens() of all given", with(SQUARE).meanGivens(), 16.0);
            Pegboardry x = with(SQUARE, first(1), new int[16]);
            due("meanGivens() of 17 in three", x.meanGivens(), 17.0 / 3.0);
            for (int count = 4; count <= 8; count++) {
                x.puzzle();
                due("meanGivens() of 17 in " + count, x.meanGivens(), 17.0 / (double) count);
            }
            x.mark(7, 0, 1);
            due("meanGivens() with a mark", x.meanGivens(), 2.125);
        });
        edge("Throws `ArithmeticException` if there are none", () -> {
            Pegboardry x = new Pegboardry();
            refused("meanGivens()", ARITHMETIC, () -> x.meanGivens());
            x.puzzle();
            due("meanGivens() with one", x.meanGivens(), 0.0);
        });
    }

    private static void isSound() {
        in("Promise 28");
        edge("Returns whether all is sound: a puzzle that is solved by rules has just one solution, and these values; "
                + "one that is broken has none.", () -> {
            due("isSound() without puzzles", new Pegboardry().isSound(), true);
            due("isSound() of one that is solved", with(FOUR_GIVENS).isSound(), true);
            due("isSound() of one that is broken", with(new int[] {1, 1}).isSound(), true);
            due("isSound() of a full one that is broken", with(squareBut(15, 2)).isSound(), true);
            due("isSound() of one that is neither", with(first(9)).isSound(), true);
            due("isSound() by cages", solvedByCages().isSound(), true);
            Pegboardry x = with(SQUARE);
            x.addCage(0, cells(0, 15), 3);
            due("isSound() of a cage that has another sum", x.isSound(), true);
            Pegboardry all = new Pegboardry();
            for (int seed = 0; seed < 8; seed++) {
                all.make(seed, 1 + seed % 3);
            }
            due("isSound() of eight that are made", all.isSound(), true);
        });
    }
}
