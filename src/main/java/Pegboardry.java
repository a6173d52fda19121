import java.util.ArrayList;
import java.util.NoSuchElementException;

/**
 * A house of puzzles with numbers in squares, each with lines, givens and cages: it makes, solves, grades and
 * proves them.
 */
public final class Pegboardry {
    private static final int MOST_PUZZLES = 8;
    private static final int MOST_CAGES = 6;
    private static final int SIDE = 4;
    private static final int CELLS = 16;
    private static final int VIEWS = 8;
    private static final int HIGHEST_RULE = 4;

    private static final int NOT_REFUSED = 0;
    private static final int CANDIDATE_IS_GONE = 1;
    private static final int RULE_DOES_NOT_APPLY = 2;

    private final ArrayList<Puzzle> puzzles = new ArrayList<Puzzle>();
    private final Solver makersSolver = new Solver();
    private final Search trialSearch = new Search();
    private final Board proofBoard = new Board();
    private Puzzle proofPuzzle = null;
    private int lastRefusal = NOT_REFUSED;

    public Pegboardry() {
    }

    // Puzzles

    public int puzzle() throws IllegalStateException {
        if (puzzles.size() >= MOST_PUZZLES) {
            throw new IllegalStateException("there are 8 puzzles");
        }
        puzzles.add(new Puzzle());
        return puzzles.size() - 1;
    }

    public int give(int puzzle, int cell, int value) throws IndexOutOfBoundsException, IllegalArgumentException {
        Puzzle asked = puzzleAt(puzzle);
        checkCell(cell);
        checkValueOrNone(value);
        int before = asked.givenRow[cell];
        asked.putGiven(cell, value);
        return before;
    }

    public int addCage(int puzzle, int cells, int sum)
            throws IndexOutOfBoundsException, IllegalArgumentException, UnsupportedOperationException {
        Puzzle asked = puzzleAt(puzzle);
        if (sum < 2 || sum > 16) {
            throw new IllegalArgumentException("the sum is out of range");
        }
        if (cells < 0 || cells >= 1 << CELLS || Integer.bitCount(cells) < 2 || Integer.bitCount(cells) > SIDE) {
            throw new IllegalArgumentException("there are not 2 to 4 cells of these 16");
        }
        if (asked.cages.size() >= MOST_CAGES) {
            throw new UnsupportedOperationException("the puzzle has 6 cages");
        }
        asked.putCage(new Cage(cells, sum));
        return asked.cages.size();
    }

    public int make(int seed, int highest) throws IllegalArgumentException, IllegalStateException {
        if (seed < 0 || seed > 9999 || highest < 1 || highest > 3) {
            throw new IllegalArgumentException("the seed or the highest rule is out of range");
        }
        if (puzzles.size() >= MOST_PUZZLES) {
            throw new IllegalStateException("there are 8 puzzles");
        }
        Puzzle made = new Puzzle();
        Draws draws = new Draws(seed);
        giveAllCells(made, draws);
        takeGivensAway(made, draws, highest);
        puzzles.add(made);
        return puzzles.size() - 1;
    }

    public int given(int puzzle, int cell) throws IndexOutOfBoundsException {
        Puzzle asked = puzzleAt(puzzle);
        checkCell(cell);
        return asked.givenRow[cell];
    }

    public int givens(int puzzle) throws IndexOutOfBoundsException {
        return puzzleAt(puzzle).countGivens();
    }

    // Solutions and steps

    public int solutions(int puzzle) throws IndexOutOfBoundsException {
        return puzzleAt(puzzle).searched().found;
    }

    public int solution(int puzzle, int cell) throws IndexOutOfBoundsException, NoSuchElementException {
        Puzzle asked = puzzleAt(puzzle);
        checkCell(cell);
        Search search = asked.searched();
        if (search.found != 1) {
            throw new NoSuchElementException("there is not just one solution");
        }
        return search.firstFound[cell];
    }

    public char solve(int puzzle) throws IndexOutOfBoundsException {
        return puzzleAt(puzzle).solved().outcome;
    }

    public int steps(int puzzle) throws IndexOutOfBoundsException {
        return puzzleAt(puzzle).solved().stepCount;
    }

    public int stepAt(int puzzle, int step) throws IndexOutOfBoundsException, NoSuchElementException {
        Solver solver = puzzleAt(puzzle).solved();
        if (step < 0 || step >= solver.stepCount) {
            throw new NoSuchElementException("there is no such step");
        }
        return solver.stepRow[step];
    }

    public int grade(int puzzle) throws IndexOutOfBoundsException, UnsupportedOperationException {
        Solver solver = puzzleAt(puzzle).solved();
        if (solver.outcome != 's') {
            throw new UnsupportedOperationException("the puzzle is not solved by rules");
        }
        return solver.gradeOfSteps();
    }

    public boolean isMinimal(int puzzle) throws IndexOutOfBoundsException {
        Puzzle asked = puzzleAt(puzzle);
        if (asked.searched().found != 1) {
            return false;
        }
        for (int cell = 0; cell < CELLS; cell++) {
            if (asked.givenRow[cell] != 0) {
                trialSearch.run(asked, cell);
                if (trialSearch.found == 1) {
                    return false;
                }
            }
        }
        return true;
    }

    public boolean areAlike(int puzzle, int other) throws IndexOutOfBoundsException, UnsupportedOperationException {
        Puzzle one = puzzleAt(puzzle);
        Puzzle two = puzzleAt(other);
        if (one.cages.size() > 0 || two.cages.size() > 0) {
            throw new UnsupportedOperationException("one of the puzzles has cages");
        }
        for (int view = 0; view < VIEWS; view++) {
            if (areRenamed(one, two, view)) {
                return true;
            }
        }
        return false;
    }

    // Proofs

    public int begin(int puzzle) throws IndexOutOfBoundsException {
        proofPuzzle = puzzleAt(puzzle);
        proofBoard.fill();
        lastRefusal = NOT_REFUSED;
        return proofBoard.countCandidates();
    }

    public int tell(int rule, int cell, int value) throws IndexOutOfBoundsException, IllegalArgumentException,
            IllegalStateException, UnsupportedOperationException {
        checkCell(cell);
        if (rule < 0 || rule > HIGHEST_RULE || value < 1 || value > SIDE) {
            throw new IllegalArgumentException("there is no such rule or value");
        }
        if (proofPuzzle == null) {
            throw new IllegalStateException("no proof was begun");
        }
        if (!proofBoard.holds(cell, value)) {
            lastRefusal = CANDIDATE_IS_GONE;
            throw new UnsupportedOperationException("the candidate is gone");
        }
        if (!proofBoard.yieldsTo(rule, proofPuzzle, cell, value)) {
            lastRefusal = RULE_DOES_NOT_APPLY;
            throw new UnsupportedOperationException("the rule does not take it away");
        }
        proofBoard.takeAway(cell, value);
        return proofBoard.countCandidates();
    }

    public int reason() {
        return lastRefusal;
    }

    public int candidates(int cell) throws IndexOutOfBoundsException, IllegalStateException {
        checkCell(cell);
        checkProof();
        return proofBoard.masks[cell];
    }

    public boolean isWhole() throws IllegalStateException {
        checkProof();
        return proofBoard.isSettled();
    }

    // Marks and hints

    public int mark(int puzzle, int cell, int value) throws IndexOutOfBoundsException, IllegalArgumentException {
        Puzzle asked = puzzleAt(puzzle);
        checkCell(cell);
        checkValueOrNone(value);
        int before = asked.markRow[cell];
        asked.markRow[cell] = value;
        return before;
    }

    public int marked(int puzzle, int cell) throws IndexOutOfBoundsException {
        Puzzle asked = puzzleAt(puzzle);
        checkCell(cell);
        return asked.markRow[cell];
    }

    public int wrong(int puzzle) throws IndexOutOfBoundsException, NoSuchElementException {
        int cell = lowestWrongCell(puzzleAt(puzzle));
        if (cell < 0) {
            throw new NoSuchElementException("no mark is wrong");
        }
        return cell;
    }

    public int hint(int puzzle) throws IndexOutOfBoundsException, UnsupportedOperationException,
            NoSuchElementException {
        Puzzle asked = puzzleAt(puzzle);
        Solver solver = asked.solved();
        if (solver.outcome != 's' || lowestWrongCell(asked) >= 0) {
            throw new UnsupportedOperationException("the puzzle is not solved by rules, or a mark is wrong");
        }
        for (int i = 0; i < solver.settledCount; i++) {
            int cell = solver.settledRow[i];
            if (asked.givenRow[cell] == 0 && asked.markRow[cell] == 0) {
                return 10 * cell + solver.board.lowestCandidate(cell);
            }
        }
        throw new NoSuchElementException("all cells are given or marked");
    }

    // Figures

    public long checksum() {
        long sum = 0;
        for (int i = 0; i < puzzles.size(); i++) {
            Puzzle each = puzzles.get(i);
            for (int cell = 0; cell < CELLS; cell++) {
                sum = 31 * sum + each.givenRow[cell] + 5 * each.markRow[cell];
            }
        }
        return sum;
    }

    public float solvedShare() throws ArithmeticException {
        int count = puzzles.size();
        if (count == 0) {
            throw new ArithmeticException("there are no puzzles");
        }
        int solvedCount = 0;
        for (int i = 0; i < count; i++) {
            if (puzzles.get(i).solved().outcome == 's') {
                solvedCount++;
            }
        }
        return (float) solvedCount / (float) count;
    }

    public double meanGivens() throws ArithmeticException {
        int count = puzzles.size();
        if (count == 0) {
            throw new ArithmeticException("there are no puzzles");
        }
        int sum = 0;
        for (int i = 0; i < count; i++) {
            sum += puzzles.get(i).countGivens();
        }
        return (double) sum / (double) count;
    }

    public boolean isSound() {
        for (int i = 0; i < puzzles.size(); i++) {
            Puzzle each = puzzles.get(i);
            Solver solver = each.solved();
            Search search = each.searched();
            if (solver.outcome == 'b' && search.found != 0) {
                return false;
            }
            if (solver.outcome == 's' && !isOnlySolution(solver.board, search)) {
                return false;
            }
        }
        return true;
    }

    // What several calls ask

    private Puzzle puzzleAt(int puzzle) {
        if (puzzle < 0 || puzzle >= puzzles.size()) {
            throw new IndexOutOfBoundsException("there is no such puzzle");
        }
        return puzzles.get(puzzle);
    }

    private static void checkCell(int cell) {
        if (cell < 0 || cell >= CELLS) {
            throw new IndexOutOfBoundsException("there is no such cell");
        }
    }

    private static void checkValueOrNone(int value) {
        if (value < 0 || value > SIDE) {
            throw new IllegalArgumentException("there is no such value");
        }
    }

    private void checkProof() {
        if (proofPuzzle == null) {
            throw new IllegalStateException("no proof was begun");
        }
    }

    private static int lowestWrongCell(Puzzle puzzle) {
        Search search = puzzle.searched();
        if (search.found != 1) {
            return -1;
        }
        for (int cell = 0; cell < CELLS; cell++) {
            if (puzzle.markRow[cell] != 0 && puzzle.markRow[cell] != search.firstFound[cell]) {
                return cell;
            }
        }
        return -1;
    }

    private static boolean isOnlySolution(Board board, Search search) {
        if (search.found != 1) {
            return false;
        }
        for (int cell = 0; cell < CELLS; cell++) {
            if (board.masks[cell] != bitOf(search.firstFound[cell])) {
                return false;
            }
        }
        return true;
    }

    private static int bitOf(int value) {
        return 1 << (value - 1);
    }

    /** A bit for the value in the row of a cell, and one for it in the column: cells clash if they share one. */
    private static int lineBits(int cell, int value) {
        int inRow = SIDE * (cell / SIDE) + value - 1;
        int inColumn = CELLS + SIDE * (cell % SIDE) + value - 1;
        return 1 << inRow | 1 << inColumn;
    }

    /** The cell in a place of a line: lines 0 to 3 are the rows, 4 to 7 the columns. */
    private static int cellOfLine(int line, int place) {
        return line < SIDE ? line * SIDE + place : place * SIDE + line - SIDE;
    }

    // Making

    private static void giveAllCells(Puzzle made, Draws draws) {
        int[] rows = {0, 1, 2, 3};
        int[] columns = {0, 1, 2, 3};
        int[] names = {1, 2, 3, 4};
        draws.mix(rows);
        draws.mix(columns);
        draws.mix(names);
        for (int row = 0; row < SIDE; row++) {
            for (int column = 0; column < SIDE; column++) {
                int value = 1 + (rows[row] + columns[column]) % SIDE;
                made.putGiven(row * SIDE + column, names[value - 1]);
            }
        }
    }

    private void takeGivensAway(Puzzle made, Draws draws, int highest) {
        for (int turn = 0; turn < CELLS; turn++) {
            int cell = draws.below(CELLS);
            int value = made.givenRow[cell];
            if (value != 0) {
                made.putGiven(cell, 0);
                makersSolver.run(made, highest);
                if (makersSolver.outcome != 's') {
                    made.putGiven(cell, value);
                }
            }
        }
    }

    // Likes

    /**
     * Whether the one puzzle, seen by a view, has the givens of the other one but for the values' names. That is so
     * if the same cells are given, and those with equal values are the same too: then no name has to be chosen.
     */
    private static boolean areRenamed(Puzzle one, Puzzle two, int view) {
        for (int cell = 0; cell < CELLS; cell++) {
            int value = one.givenRow[cell];
            int seen = two.givenRow[seenFrom(view, cell)];
            if ((value == 0) != (seen == 0)) {
                return false;
            }
            for (int other = 0; other < cell; other++) {
                boolean equal = value == one.givenRow[other];
                boolean seenEqual = seen == two.givenRow[seenFrom(view, other)];
                if (equal != seenEqual) {
                    return false;
                }
            }
        }
        return true;
    }

    /** Where a cell comes by a view: views 0 to 3 turn so many quarters, 4 to 7 look from behind before. */
    private static int seenFrom(int view, int cell) {
        int row = cell / SIDE;
        int column = view < SIDE ? cell % SIDE : SIDE - 1 - cell % SIDE;
        for (int turn = 0; turn < view % SIDE; turn++) {
            int oldRow = row;
            row = column;
            column = SIDE - 1 - oldRow;
        }
        return row * SIDE + column;
    }

    /** The draws by which a puzzle is made. */
    private static final class Draws {
        private long z;

        private Draws(int seed) {
            z = seed;
        }

        private int below(int bound) {
            z = (z * 1103515245L + 12345L) % 2147483648L;
            return bound < 1 ? 0 : (int) (z / 65536L % bound);
        }

        private void mix(int[] row) {
            for (int k = row.length - 1; k > 0; k--) {
                int place = below(k + 1);
                int moved = row[k];
                row[k] = row[place];
                row[place] = moved;
            }
        }
    }

    /** A cage: its cells, from the lowest, and their sum. */
    private static final class Cage {
        private final int[] cellRow;
        private final int sum;

        private Cage(int cells, int sum) {
            cellRow = new int[Integer.bitCount(cells)];
            this.sum = sum;
            int place = 0;
            for (int cell = 0; cell < CELLS && place < cellRow.length; cell++) {
                if ((cells >> cell & 1) != 0) {
                    cellRow[place] = cell;
                    place++;
                }
            }
        }

        private boolean isCageOf(int cell) {
            for (int place = 0; place < cellRow.length; place++) {
                if (cellRow[place] == cell) {
                    return true;
                }
            }
            return false;
        }

        private boolean hasSumIn(int[] values) {
            int total = 0;
            for (int place = 0; place < cellRow.length; place++) {
                total += values[cellRow[place]];
            }
            return total == sum;
        }

        /**
         * Whether candidates can be chosen for the cells from a place on, so that they have the rest as sum and none
         * has a line bit that is taken.
         */
        private static boolean canBeFilled(Cage cage, Board board, int place, int rest, int taken) {
            if (place >= cage.cellRow.length) {
                return rest == 0;
            }
            int cell = cage.cellRow[place];
            for (int value = 1; value <= SIDE && value <= rest; value++) {
                int bits = lineBits(cell, value);
                if (board.holds(cell, value) && (taken & bits) == 0
                        && canBeFilled(cage, board, place + 1, rest - value, taken | bits)) {
                    return true;
                }
            }
            return false;
        }
    }

    /** The candidates of all cells: of a cell's mask, the bit v - 1 is that of the value v. */
    private static final class Board {
        private static final int ALL_VALUES = 15;

        private final int[] masks = new int[CELLS];

        private void fill() {
            for (int cell = 0; cell < CELLS; cell++) {
                masks[cell] = ALL_VALUES;
            }
        }

        private boolean holds(int cell, int value) {
            return (masks[cell] >> (value - 1) & 1) != 0;
        }

        private void takeAway(int cell, int value) {
            masks[cell] &= ~bitOf(value);
        }

        private int countCandidates() {
            int count = 0;
            for (int cell = 0; cell < CELLS; cell++) {
                count += Integer.bitCount(masks[cell]);
            }
            return count;
        }

        private int lowestCandidate(int cell) {
            return 1 + Integer.numberOfTrailingZeros(masks[cell]);
        }

        private boolean isSettled() {
            for (int cell = 0; cell < CELLS; cell++) {
                if (Integer.bitCount(masks[cell]) != 1) {
                    return false;
                }
            }
            return true;
        }

        private boolean isBroken() {
            for (int cell = 0; cell < CELLS; cell++) {
                if (masks[cell] == 0) {
                    return true;
                }
            }
            return false;
        }

        /** Whether the rule takes this candidate away, of which is known that it is there. */
        private boolean yieldsTo(int rule, Puzzle puzzle, int cell, int value) {
            int row = cell / SIDE;
            int column = SIDE + cell % SIDE;
            switch (rule) {
                case 0:
                    return puzzle.givenRow[cell] != 0 && puzzle.givenRow[cell] != value;
                case 1:
                    return isOnlyCandidateElsewhere(row, cell, value) || isOnlyCandidateElsewhere(column, cell, value);
                case 2:
                    return isOnlyPlaceOfOther(row, cell, value) || isOnlyPlaceOfOther(column, cell, value);
                case 3:
                    return isInPairElsewhere(row, cell, value) || isInPairElsewhere(column, cell, value);
                case 4:
                    return leavesCageUnfilled(puzzle, cell, value);
                default:
                    return false;
            }
        }

        private boolean isOnlyCandidateElsewhere(int line, int cell, int value) {
            for (int place = 0; place < SIDE; place++) {
                int other = cellOfLine(line, place);
                if (other != cell && masks[other] == bitOf(value)) {
                    return true;
                }
            }
            return false;
        }

        private boolean isOnlyPlaceOfOther(int line, int cell, int value) {
            int elsewhere = 0;
            for (int place = 0; place < SIDE; place++) {
                int other = cellOfLine(line, place);
                if (other != cell) {
                    elsewhere |= masks[other];
                }
            }
            return (masks[cell] & ~elsewhere & ~bitOf(value)) != 0;
        }

        private boolean isInPairElsewhere(int line, int cell, int value) {
            for (int place = 1; place < SIDE; place++) {
                int second = cellOfLine(line, place);
                if (second != cell && holds(second, value) && Integer.bitCount(masks[second]) == 2) {
                    for (int before = 0; before < place; before++) {
                        int first = cellOfLine(line, before);
                        if (first != cell && masks[first] == masks[second]) {
                            return true;
                        }
                    }
                }
            }
            return false;
        }

        private boolean leavesCageUnfilled(Puzzle puzzle, int cell, int value) {
            int mask = masks[cell];
            // The value is chosen for its cell by being, for a while, the only candidate there.
            masks[cell] = bitOf(value);
            boolean leaves = false;
            for (int i = 0; !leaves && i < puzzle.cages.size(); i++) {
                Cage cage = puzzle.cages.get(i);
                leaves = cage.isCageOf(cell) && !Cage.canBeFilled(cage, this, 0, cage.sum, 0);
            }
            masks[cell] = mask;
            return leaves;
        }
    }

    /** Goes by rules through a puzzle, and keeps the steps and the cells in the order in which they were settled. */
    private static final class Solver {
        // Each step takes one of the candidates away, so that there can't be more.
        private static final int MOST_STEPS = CELLS * SIDE;

        private final Board board = new Board();
        private final int[] stepRow = new int[MOST_STEPS];
        private final int[] settledRow = new int[CELLS];
        private int stepCount = 0;
        private int settledCount = 0;
        private char outcome = 'n';

        private void run(Puzzle puzzle, int highest) {
            board.fill();
            stepCount = 0;
            settledCount = 0;
            boolean goesOn = true;
            for (int turn = 0; goesOn && turn < MOST_STEPS; turn++) {
                goesOn = takeOneAway(puzzle, highest) && !board.isBroken();
            }
            if (board.isBroken()) {
                outcome = 'b';
            } else {
                outcome = board.isSettled() ? 's' : 'n';
            }
        }

        private boolean takeOneAway(Puzzle puzzle, int highest) {
            for (int rule = 0; rule <= highest; rule++) {
                for (int cell = 0; cell < CELLS; cell++) {
                    for (int value = 1; value <= SIDE; value++) {
                        if (board.holds(cell, value) && board.yieldsTo(rule, puzzle, cell, value)) {
                            board.takeAway(cell, value);
                            keepStep(rule, cell, value);
                            return true;
                        }
                    }
                }
            }
            return false;
        }

        private void keepStep(int rule, int cell, int value) {
            if (stepCount < stepRow.length) {
                stepRow[stepCount] = 100 * rule + 5 * cell + value;
                stepCount++;
            }
            if (Integer.bitCount(board.masks[cell]) == 1 && settledCount < settledRow.length) {
                settledRow[settledCount] = cell;
                settledCount++;
            }
        }

        private int gradeOfSteps() {
            int highestUsed = 0;
            int count = 0;
            for (int i = 0; i < stepCount; i++) {
                int rule = stepRow[i] / 100;
                if (rule > highestUsed) {
                    highestUsed = rule;
                    count = 0;
                }
                if (rule == highestUsed) {
                    count++;
                }
            }
            return 100 * highestUsed + count;
        }
    }

    /** Finds solutions by trying all values, until there are two, and keeps the first one. */
    private static final class Search {
        private static final int NO_CELL = -1;
        private static final int ENOUGH = 2;

        private final int[] tried = new int[CELLS];
        private final int[] firstFound = new int[CELLS];
        private int found = 0;

        /** Searches as if the given of one cell were not there. */
        private void run(Puzzle puzzle, int cellWithout) {
            found = 0;
            tryFrom(this, puzzle, cellWithout, 0, 0);
        }

        private static void tryFrom(Search search, Puzzle puzzle, int cellWithout, int cell, int taken) {
            if (cell >= CELLS) {
                search.keepIfCagesHold(puzzle);
                return;
            }
            int due = cell == cellWithout ? 0 : puzzle.givenRow[cell];
            for (int value = 1; value <= SIDE && search.found < ENOUGH; value++) {
                int bits = lineBits(cell, value);
                if ((due == 0 || due == value) && (taken & bits) == 0) {
                    search.tried[cell] = value;
                    tryFrom(search, puzzle, cellWithout, cell + 1, taken | bits);
                }
            }
        }

        private void keepIfCagesHold(Puzzle puzzle) {
            for (int i = 0; i < puzzle.cages.size(); i++) {
                if (!puzzle.cages.get(i).hasSumIn(tried)) {
                    return;
                }
            }
            if (found == 0) {
                System.arraycopy(tried, 0, firstFound, 0, CELLS);
            }
            found++;
        }
    }

    /** A puzzle, with what was found out about it since its givens and cages last changed. */
    private static final class Puzzle {
        private final int[] givenRow = new int[CELLS];
        private final int[] markRow = new int[CELLS];
        private final ArrayList<Cage> cages = new ArrayList<Cage>();
        private final Solver solver = new Solver();
        private final Search search = new Search();
        private boolean solverIsFresh = false;
        private boolean searchIsFresh = false;

        private void putGiven(int cell, int value) {
            givenRow[cell] = value;
            solverIsFresh = false;
            searchIsFresh = false;
        }

        private void putCage(Cage cage) {
            cages.add(cage);
            solverIsFresh = false;
            searchIsFresh = false;
        }

        private int countGivens() {
            int count = 0;
            for (int cell = 0; cell < CELLS; cell++) {
                if (givenRow[cell] != 0) {
                    count++;
                }
            }
            return count;
        }

        private Solver solved() {
            if (!solverIsFresh) {
                solver.run(this, HIGHEST_RULE);
                solverIsFresh = true;
            }
            return solver;
        }

        private Search searched() {
            if (!searchIsFresh) {
                search.run(this, Search.NO_CELL);
                searchIsFresh = true;
            }
            return search;
        }
    }
}
