import java.util.Arrays;
import java.util.HashSet;
import java.util.Set;

/** A test for each sentence of the document's Terms, and of what stands before them, that names a boundary case. */
public final class PegboardryTermEdges extends Edges {
    public static void main(String[] args) {
        in("What it is");
        calls();
        in("Boards");
        boards();
        cages();
        in("Candidates");
        candidates();
        givenRule();
        singleRule();
        hiddenRule();
        pairRule();
        cageRule();
        in("Steps");
        steps();
        solvedAndBroken();
        in("Grades");
        grades();
        in("Making");
        draws();
        mixing();
        takingAway();
        in("Alike");
        alike();
        in("Proofs");
        proofs();
        in("Marks");
        marks();
        in("Clarifications");
        clarifications();
        end();
    }

    // What it is

    private static void calls() {
        edge("An object is used for at most 512 calls after it has been made; what later calls answer is free.", () -> {
            Pegboardry x = new Pegboardry();
            for (int call = 1; call <= 8; call++) {
                due("call " + call, x.puzzle(), call - 1);
            }
            for (int call = 9; call < 511; call += 2) {
                int turn = (call - 9) / 2;
                int cell = turn / 8 % 16;
                due("call " + call, x.give(turn % 8, cell, SQUARE[cell]), turn < 128 ? 0 : SQUARE[cell]);
                due("call " + (call + 1), x.given(turn % 8, cell), SQUARE[cell]);
            }
            due("call 511", x.meanGivens(), 16.0);
            due("call 512", x.isSound(), true);
        });
    }

    // Boards

    private static void boards() {
        edge("At most 8 puzzles are numbered from 0.", () -> {
            Pegboardry x = new Pegboardry();
            refused("givens(0) of none", INDEX, () -> x.givens(0));
            for (int i = 0; i < 8; i++) {
                due("the number of puzzle " + i, i % 2 == 0 ? x.puzzle() : x.make(i, 1), i);
                int next = i + 1;
                refused("givens of the next", INDEX, () -> x.givens(next));
            }
            refused("puzzle()", STATE, () -> x.puzzle());
            refused("make(1, 1)", STATE, () -> x.make(1, 1));
            due("givens(6)", x.givens(6), 0);
            due("givens(7) is a number", x.givens(7) > 0, true);
        });
        edge("A puzzle is a square of 16 cells in 4 rows of 4, numbered from 0, row by row.", () -> {
            for (int cell = 0; cell < 16; cell++) {
                Pegboardry x = withEmpty();
                x.give(0, cell, 1);
                for (int other = 0; other < 16; other++) {
                    if (other != cell) {
                        boolean inLine = other / 4 == cell / 4 || other % 4 == cell % 4;
                        x.give(0, other, 1);
                        due("solutions with a 1 in " + cell + " and " + other, x.solutions(0), inLine ? 0 : 2);
                        x.give(0, other, 0);
                    }
                }
            }
        });
        edge("Each cell has a value from 1 to 4, so that no value comes twice in a row or in a column: a line.", () -> {
            Pegboardry x = with(new int[] {0, 0, 1, 4, 0, 0, 0, 1, 0, 0, 0, 0, 2});
            int[] want = {3, 2, 1, 4, 4, 3, 2, 1, 1, 4, 3, 2, 2, 1, 4, 3};
            for (int cell = 0; cell < 16; cell++) {
                due("solution(0, " + cell + ")", x.solution(0, cell), want[cell]);
            }
            for (int value = 1; value <= 4; value++) {
                Pegboardry y = withEmpty();
                y.give(0, 8, value);
                y.give(0, 11, value);
                due(value + " twice in a row", y.solutions(0), 0);
                y.give(0, 11, 0);
                y.give(0, 12, value);
                due(value + " twice in a column", y.solutions(0), 0);
                y.give(0, 12, 0);
                y.give(0, 5, value);
                due(value + " twice, in no line", y.solutions(0), 2);
            }
        });
        edge("A given tells the value of a cell.", () -> {
            Pegboardry x = with(first(9));
            due("solutions with nine givens", x.solutions(0), 2);
            x.give(0, 9, 1);
            due("solution of the tenth given", x.solution(0, 9), 1);
            x.give(0, 9, 3);
            due("solution of another given there", x.solution(0, 9), 3);
            x.give(0, 9, 2);
            due("solutions with a given that can't be", x.solutions(0), 0);
        });
    }

    private static void cages() {
        edge("At most 6 cages tell the sum of the values of some cells, 2 to 4 of them; "
                + "a cell can be in several cages.", () -> {
            Pegboardry x = withEmpty();
            refused("one cell", ARGUMENT, () -> x.addCage(0, cells(0), 4));
            due("two cells", x.addCage(0, cells(0, 1), 3), 1);
            due("three cells", x.addCage(0, cells(0, 1, 2), 6), 2);
            due("four cells", x.addCage(0, cells(0, 1, 2, 3), 10), 3);
            refused("five cells", ARGUMENT, () -> x.addCage(0, cells(0, 1, 2, 3, 4), 11));
            due("the 4th", x.addCage(0, cells(0, 4), 3), 4);
            due("the 5th", x.addCage(0, cells(0, 8), 5), 5);
            due("solutions with five cages of the cell 0", x.solutions(0), 2);
            due("the 6th", x.addCage(0, cells(0, 5), 4), 6);
            refused("the 7th", UNSUPPORTED, () -> x.addCage(0, cells(0, 15), 5));
            due("solutions", x.solutions(0), 2);
            due("the first cage takes part", soleCage(cells(0, 1), 2).solutions(0), 0);
            Pegboardry y = with(first(8));
            y.addCage(0, cells(8, 0), 3);
            due("solutions with a cage that is right", y.solutions(0), 2);
            y.addCage(0, cells(8, 12), 5);
            due("solutions with another one", y.solutions(0), 0);
            Pegboardry tooMuch = with(SQUARE);
            tooMuch.addCage(0, cells(0, 15), 3);
            due("solutions with a cage that has a greater sum", tooMuch.solutions(0), 0);
        });
    }

    private static Pegboardry soleCage(int cells, int sum) {
        Pegboardry x = withEmpty();
        x.addCage(0, cells, sum);
        x.begin(0);
        return x;
    }

    // Candidates

    private static void candidates() {
        edge("A solver begins with all four values in each cell as candidates, and takes them away one by one, "
                + "each by a rule, until no rule takes one away.", () -> {
            due("steps without givens", withEmpty().steps(0), 0);
            due("steps of a square", with(SQUARE).steps(0), 48);
            Set<Integer> taken = new HashSet<>();
            for (int step : stepsOf(with(SQUARE), 0)) {
                due("value of " + step + " differs", valueOf(step) != SQUARE[cellOf(step)], true);
                taken.add(step);
            }
            due("steps of a square that differ", taken.size(), 48);
            Pegboardry clash = with(squareBut(15, 2));
            due("steps when all cells have one candidate, and a rule takes one away", clash.steps(0), 49);
            due("the last one", clash.stepAt(0, 48), 137);
            due("how it ends", clash.solve(0), 'b');
            due("steps until no rule takes one away", with(new int[] {0, 1, 0, 0, 4, 2, 0, 0, 0, 0, 4}).steps(0), 36);
        });
    }

    private static void givenRule() {
        edge("Rules: the 0th, a given: the candidate is another value than the given one of its cell.", () -> {
            Pegboardry x = withProof();
            for (int value = 1; value <= 4; value++) {
                keeps(x, 0, 6, value);
            }
            for (int value = 1; value <= 4; value++) {
                Pegboardry y = withProof();
                y.give(0, 6, value);
                for (int other = 1; other <= 4; other++) {
                    keeps(y, 0, 7, other);
                    keeps(y, 0, 2, other);
                    if (other == value) {
                        keeps(y, 0, 6, other);
                    } else {
                        takes(y, 0, 6, other);
                    }
                }
                due("candidates of the given cell", y.candidates(6), 1 << (value - 1));
                y.give(0, 6, 0);
                keeps(y, 0, 6, value);
            }
        });
    }

    private static void singleRule() {
        edge("The 1st: another cell of one of its lines has this value as its only candidate.", () -> {
            for (int cell = 0; cell < 16; cell++) {
                Pegboardry x = withProof();
                leave(x, cell, 3);
                keeps(x, 1, cell, 3);
                for (int other = 0; other < 16; other++) {
                    if (other != cell) {
                        keeps(x, 1, other, 2);
                        if (other / 4 == cell / 4 || other % 4 == cell % 4) {
                            takes(x, 1, other, 3);
                        } else {
                            keeps(x, 1, other, 3);
                        }
                    }
                }
            }
            Pegboardry y = withProof();
            leave(y, 5, 1, 4);
            keeps(y, 1, 4, 1);
            keeps(y, 1, 4, 4);
            leave(y, 5);
            keeps(y, 1, 4, 1);
            Pegboardry z = withProof();
            leave(z, 5, 1);
            leave(z, 6, 1);
            takes(z, 1, 5, 1);
            due("candidates of a cell without", z.candidates(5), 0);
            keeps(z, 1, 6, 1);
        });
    }

    private static void hiddenRule() {
        edge("The 2nd: the cell is the only one of one of its lines that has some other value as a candidate.", () -> {
            for (int[] line : new int[][] {{0, 1, 2, 3}, {12, 13, 14, 15}, {0, 4, 8, 12}, {3, 7, 11, 15}}) {
                for (int place = 0; place < 4; place++) {
                    hiddenIn(line, line[place]);
                }
            }
            Pegboardry x = withProof();
            for (int cell = 0; cell < 4; cell++) {
                leave(x, cell, 2, 3, 4);
            }
            keeps(x, 2, 0, 2);
            Pegboardry y = withProof();
            leave(y, 1);
            leave(y, 2);
            leave(y, 3);
            takes(y, 2, 0, 1);
            takes(y, 2, 0, 4);
            takes(y, 2, 0, 3);
            keeps(y, 2, 0, 2);
        });
    }

    /** The cell comes to be the only one of its line for a 1, but for the line's other cells one after another. */
    private static void hiddenIn(int[] line, int cell) {
        Pegboardry x = withProof();
        for (int other : line) {
            if (other != cell) {
                keeps(x, 2, cell, 2);
                leave(x, other, 2, 3, 4);
            }
        }
        for (int other : line) {
            if (other != cell) {
                keeps(x, 2, other, 2);
            }
        }
        keeps(x, 2, cell, 1);
        takes(x, 2, cell, 2);
        takes(x, 2, cell, 3);
        takes(x, 2, cell, 4);
        keeps(x, 2, cell, 1);
    }

    private static void pairRule() {
        edge("The 3rd: in one of its lines, two other cells have the same two candidates, "
                + "and this value is one of them.", () -> {
            for (int[] line : new int[][] {{0, 1, 2, 3}, {12, 13, 14, 15}, {0, 4, 8, 12}, {3, 7, 11, 15}}) {
                pairIn(line[0], line[1], line[2], line[3]);
                pairIn(line[0], line[2], line[1], line[3]);
                pairIn(line[0], line[3], line[1], line[2]);
                pairIn(line[1], line[2], line[0], line[3]);
                pairIn(line[1], line[3], line[0], line[2]);
                pairIn(line[2], line[3], line[0], line[1]);
            }
            Pegboardry x = withProof();
            leave(x, 1, 1, 2);
            leave(x, 2, 1, 3);
            keeps(x, 3, 0, 1);
            leave(x, 8, 1, 2);
            keeps(x, 3, 0, 1);
            Pegboardry three = withProof();
            leave(three, 1, 1, 2, 3);
            leave(three, 2, 1, 2, 3);
            leave(three, 3, 1, 2, 3);
            keeps(three, 3, 0, 1);
            Pegboardry one = withProof();
            leave(one, 1, 4);
            leave(one, 2, 4);
            keeps(one, 3, 0, 4);
        });
    }

    private static void pairIn(int one, int two, int third, int fourth) {
        Pegboardry x = withProof();
        leave(x, one, 2, 4);
        keeps(x, 3, third, 2);
        leave(x, two, 2, 4);
        keeps(x, 3, one, 2);
        keeps(x, 3, two, 4);
        keeps(x, 3, third, 1);
        keeps(x, 3, third, 3);
        keeps(x, 3, 5, 2);
        takes(x, 3, third, 2);
        takes(x, 3, third, 4);
        takes(x, 3, fourth, 4);
        takes(x, 3, fourth, 2);
    }

    private static void cageRule() {
        edge("The 4th: in some cage of its cell, a candidate of each other cell of this cage cannot be chosen so that "
                + "all these have the sum together with this value, and no two cells of one line have the same value.",
                () -> {
            cagesBySum();
            cagesByLines();
            cagesByCandidates();
        });
    }

    private static void cagesBySum() {
        Pegboardry none = withProof();
        keeps(none, 4, 0, 4);
        Pegboardry least = soleCage(cells(0, 5, 10, 15), 4);
        keeps(least, 4, 15, 1);
        takes(least, 4, 15, 2);
        keeps(least, 4, 1, 2);
        Pegboardry most = soleCage(cells(0, 5, 10, 15), 16);
        keeps(most, 4, 0, 4);
        takes(most, 4, 0, 3);
        Pegboardry two = soleCage(cells(0, 15), 2);
        keeps(two, 4, 0, 1);
        takes(two, 4, 0, 2);
        Pegboardry tooMuch = soleCage(cells(0, 15), 9);
        keeps(tooMuch, 4, 1, 1);
        for (int value = 1; value <= 4; value++) {
            takes(tooMuch, 4, 0, value);
        }
        Pegboardry tooLittle = soleCage(cells(0, 5, 10, 15), 3);
        takes(tooLittle, 4, 10, 1);
        Pegboardry several = soleCage(cells(0, 1), 3);
        keeps(several, 4, 0, 2);
        several.addCage(0, cells(0, 5), 7);
        several.addCage(0, cells(0, 15), 4);
        takes(several, 4, 0, 2);
        takes(several, 4, 0, 1);
    }

    private static void cagesByLines() {
        Pegboardry row = soleCage(cells(0, 1), 4);
        takes(row, 4, 0, 2);
        keeps(row, 4, 0, 3);
        Pegboardry column = soleCage(cells(3, 15), 6);
        takes(column, 4, 15, 3);
        keeps(column, 4, 15, 2);
        Pegboardry noLine = soleCage(cells(0, 5), 4);
        keeps(noLine, 4, 0, 2);
        Pegboardry acrossTheEdge = soleCage(cells(3, 4), 4);
        keeps(acrossTheEdge, 4, 3, 2);
        Pegboardry othersInRow = soleCage(cells(0, 5, 6), 5);
        keeps(othersInRow, 4, 0, 1);
        keeps(othersInRow, 4, 0, 2);
        takes(othersInRow, 4, 0, 3);
        Pegboardry othersInColumn = soleCage(cells(0, 5, 9), 3);
        takes(othersInColumn, 4, 0, 1);
        Pegboardry threeInRow = soleCage(cells(0, 1, 2), 7);
        takes(threeInRow, 4, 0, 3);
        keeps(threeInRow, 4, 0, 4);
    }

    private static void cagesByCandidates() {
        Pegboardry x = soleCage(cells(0, 5), 5);
        leave(x, 5, 2, 3);
        takes(x, 4, 0, 1);
        takes(x, 4, 0, 4);
        keeps(x, 4, 0, 2);
        keeps(x, 4, 0, 3);
        leave(x, 5);
        takes(x, 4, 0, 2);
        Pegboardry own = soleCage(cells(0, 5, 10), 3);
        leave(own, 0, 1);
        keeps(own, 4, 0, 1);
        leave(own, 10, 2, 3, 4);
        takes(own, 4, 0, 1);
    }

    // Steps

    private static void steps() {
        edge("Of all candidates that can be taken away, the solver takes that by the lowest rule, then of the lowest "
                + "cell, then of the lowest value.", () -> {
            Pegboardry x = with(new int[] {1});
            x.addCage(0, cells(8, 9), 3);
            int[] want = {2, 3, 4, 106, 111, 116, 121, 141, 161, 443, 444, 122, 147, 152, 157, 162, 448, 449, 126, 151,
                156, 166};
            due("steps", Arrays.toString(stepsOf(x, 0)), Arrays.toString(want));
            Pegboardry pairs = with(new int[] {0, 0, 0, 0, 3, 0, 4, 0, 0, 0, 0, 0, 4, 0, 3});
            int[] end = {306, 307, 316, 317, 346, 347, 356, 357};
            due("the last steps", Arrays.toString(Arrays.copyOfRange(stepsOf(pairs, 0), 28, 36)), Arrays.toString(end));
            Pegboardry cages = withEmpty();
            cages.addCage(0, cells(1, 2, 3, 9), 13);
            cages.addCage(0, cells(0, 6, 10, 15), 11);
            int[] mixed = {406, 409, 411, 416, 202, 203, 204, 121, 141, 161, 431, 446, 447, 448, 129, 144, 154, 159,
                169, 432, 433, 114, 124, 139, 174, 217, 218, 179, 262, 263, 451, 257, 258, 136, 176, 227, 228, 166, 272,
                273, 452, 113, 107, 143, 122, 138, 168, 177};
            due("steps by cages", Arrays.toString(stepsOf(cages, 0)), Arrays.toString(mixed));
        });
    }

    private static void solvedAndBroken() {
        edge("A puzzle is solved when each cell has one candidate; it is broken, and the solver stops, as soon as a "
                + "cell has none.", () -> {
            due("solve of a square", with(SQUARE).solve(0), 's');
            Pegboardry rectangle = with(new int[] {0, 2, 0, 4, 0, 4, 0, 2, 2, 1, 4, 3, 4, 3, 2, 1});
            due("solve with four cells of two candidates", rectangle.solve(0), 'n');
            due("its steps", rectangle.steps(0), 44);
            due("solve without givens", withEmpty().solve(0), 'n');
            Pegboardry clash = with(new int[] {1, 1});
            due("solve of a clash", clash.solve(0), 'b');
            due("its steps", Arrays.toString(stepsOf(clash, 0)), "[2, 3, 4, 7, 8, 9, 101]");
            Pegboardry cage = soleCage(cells(10, 15), 16);
            due("solve of a cage that can't be filled", cage.solve(0), 'b');
            due("its steps", Arrays.toString(stepsOf(cage, 0)), "[451, 452, 453, 114, 134, 144, 149, 159, 174, 454]");
        });
    }

    // Grades

    private static void grades() {
        edge("The grade of a puzzle that is solved is 100 times the highest rule that was used, plus the number of "
                + "steps by it.", () -> {
            due("all by the 0th rule", with(SQUARE).grade(0), 48);
            due("the last three by the 1st", with(first(15)).grade(0), 103);
            due("four givens", with(new int[] {0, 0, 1, 4, 0, 0, 0, 1, 0, 0, 0, 0, 2}).grade(0), 136);
            Pegboardry x = withEmpty();
            x.addCage(0, cells(1, 2, 3, 9), 13);
            x.addCage(0, cells(0, 6, 10, 15), 11);
            due("twelve of 48 by cages", x.grade(0), 412);
            Pegboardry y = with(SQUARE);
            y.addCage(0, cells(0, 1), 3);
            due("with a cage that takes nothing away", y.grade(0), 48);
        });
    }

    // Making

    private static void isMade(int seed, int highest, String square, String givens) {
        Pegboardry x = new Pegboardry();
        int puzzle = x.make(seed, highest);
        for (int cell = 0; cell < 16; cell++) {
            String what = " of the cell " + cell + " made with " + seed + " and " + highest;
            due("value" + what, x.solution(puzzle, cell), square.charAt(cell) - '0');
            due("given" + what, x.given(puzzle, cell), givens.charAt(cell) - '0');
        }
    }

    private static void draws() {
        edge("z is the seed at first, and becomes z times 1103515245 plus 12345, modulo 2147483648, for each draw "
                + "below n, which gives z divided by 65536, rounded down, modulo n.", () -> {
            // The first z is 12345, less than 65536: the first draw is 0.
            isMade(0, 3, "2314314214234231", "0310304210000000");
            // The first z is 9999 times 1103515245 plus 12345, some 5137 times 2147483648.
            isMade(9999, 3, "4321124334122134", "0301024300000100");
        });
        edge("The values begin as 1 plus what is left when the row plus the column is divided by 4.", () -> {
            // The draws for rows, columns and names are 2 1 1, 3 1 1 and 2 0 0.
            isMade(1, 1, "2143342143121234", "2003340043120000");
        });
    }

    private static void mixing() {
        edge("The rows are mixed: for k from 3 down to 1, the row in the place k and that in the place of a draw below "
                + "k + 1 change places; then the columns likewise; then a row of the names 1 to 4 is mixed likewise, "
                + "and each value v becomes the name in the place v less 1.", () -> {
            // The draws are 3 2 1 (each place with itself), 2 1 1 and 2 0 0.
            isMade(5000, 3, "2341421314323124", "0300020310300020");
            // The draws are 0 2 0, 1 0 0 and 2 2 0.
            isMade(61, 1, "2314413212433421", "2010010000430020");
        });
        edge("All cells are given.", () -> {
            // The cells 1, 5, 10 and 14 are not drawn.
            Pegboardry x = new Pegboardry();
            x.make(5000, 3);
            for (int cell : new int[] {1, 5, 10, 14}) {
                due("given(0, " + cell + ")", x.given(0, cell), x.solution(0, cell));
            }
        });
    }

    private static void takingAway() {
        edge("Then 16 times a cell is drawn below 16: if it is given, the given is taken away, unless the puzzle is "
                + "not solved then by rules up to the highest one.", () -> {
            Pegboardry x = new Pegboardry();
            x.make(61, 1);
            due("the 1st drawn cell", x.given(0, 12), 0);
            due("the 15th drawn cell, without which it is not solved", x.given(0, 0), 2);
            due("the 16th drawn cell", x.given(0, 8), 0);
            x.make(100, 2);
            due("givens, of which a 17th draw would take one away", x.givens(1), 7);
            for (int highest = 1; highest <= 3; highest++) {
                Pegboardry y = new Pegboardry();
                for (int seed = 5000; seed < 5008; seed++) {
                    due("grade by the highest rule", y.grade(y.make(seed, highest)) / 100 <= highest, true);
                }
            }
        });
    }

    // Alike

    private static void alike() {
        edge("Two puzzles without cages are alike if one comes of the other one by turning the square, by looking at "
                + "it from behind, and by giving the values other names, each the same in all cells: the same cells "
                + "are given then, with the same values.", () -> {
            String picture = "1200 0030 0000 0000";
            due("the same", areAlike(picture, picture), true);
            due("none given", areAlike("0000 0000 0000 0000", "0000 0000 0000 0000"), true);
            due("none and one given", areAlike("0000 0000 0000 0000", "1000 0000 0000 0000"), false);
            due("a quarter", areAlike(picture, "0001 0002 0030 0000"), true);
            due("two quarters", areAlike(picture, "0000 0000 0300 0021"), true);
            due("three quarters", areAlike(picture, "0000 0300 2000 1000"), true);
            due("from behind", areAlike(picture, "0021 0300 0000 0000"), true);
            due("from behind and a quarter", areAlike(picture, "0000 0030 0002 0001"), true);
            due("from behind and two quarters", areAlike(picture, "0000 0000 0030 1200"), true);
            due("from behind and three quarters", areAlike(picture, "1000 2000 0300 0000"), true);
            due("other names", areAlike(picture, "4100 0020 0000 0000"), true);
            due("other names, turned", areAlike(picture, "0002 0003 0010 0000"), true);
            due("a name for two values", areAlike(picture, "1200 0010 0000 0000"), false);
            due("two names for a value", areAlike("1200 0010 0000 0000", picture), false);
            due("another name in one of its cells", areAlike("1200 0010 0000 0000", "2100 0010 0000 0000"), false);
            due("a row moved", areAlike(picture, "0000 1200 0030 0000"), false);
            due("another cell", areAlike(picture, "1200 0003 0000 0000"), false);
            due("one more given", areAlike(picture, "1200 0030 0000 0001"), false);
            due("all given, and no 1", areAlike("1234 3412 2143 4321", "0234 3402 2043 4320"), false);
            due("no 1, and all given", areAlike("0234 3402 2043 4320", "1234 3412 2143 4321"), false);
            due("a row put behind the next", areAlike(picture, "0030 1200 0000 0000"), false);
        });
    }

    private static boolean areAlike(String one, String other) {
        return with(written(one), written(other)).areAlike(0, 1);
    }

    private static int[] written(String givens) {
        return givens.chars().filter(sign -> sign != ' ').map(sign -> sign - '0').toArray();
    }

    // Proofs

    private static void proofs() {
        edge("A proof of a puzzle begins with all candidates, and takes one away by each step that is told, if it is "
                + "there, and the rule takes it away as candidates are then; otherwise the step is refused, for a "
                + "reason: 1, the candidate is gone; 2, the rule does not take it away.", () -> {
            Pegboardry x = with(new int[] {1});
            x.begin(0);
            for (int cell = 0; cell < 16; cell++) {
                due("candidates(" + cell + ")", x.candidates(cell), 15);
            }
            keeps(x, 1, 1, 1);
            due("the first step", x.tell(0, 0, 4), 63);
            refused("the first step again", UNSUPPORTED, () -> x.tell(0, 0, 4));
            due("its reason", x.reason(), 1);
            refused("by a rule that would not take it away either", UNSUPPORTED, () -> x.tell(3, 0, 4));
            due("its reason", x.reason(), 1);
            takes(x, 0, 0, 2);
            keeps(x, 1, 1, 1);
            takes(x, 0, 0, 3);
            takes(x, 1, 1, 1);
            keeps(x, 0, 0, 1);
        });
        edge("It is whole when each cell has one candidate.", () -> {
            Pegboardry x = with(first(15));
            x.begin(0);
            for (int step : stepsOf(x, 0)) {
                due("isWhole() before " + step, x.isWhole(), false);
                x.tell(ruleOf(step), cellOf(step), valueOf(step));
            }
            due("isWhole()", x.isWhole(), true);
            x.give(0, 0, 2);
            due("a candidate less", x.tell(0, 0, 1), 15);
            due("isWhole() with a cell without", x.isWhole(), false);
        });
    }

    // Marks

    private static void marks() {
        edge("A mark is wrong if the puzzle has just one solution, and this has another value there.", () -> {
            Pegboardry one = with(first(11));
            refused("wrong(0) without marks", NO_ELEMENT, () -> one.wrong(0));
            one.mark(0, 15, SQUARE[15]);
            refused("wrong(0) with the solution's value", NO_ELEMENT, () -> one.wrong(0));
            one.mark(0, 15, 4);
            due("wrong(0) with another value", one.wrong(0), 15);
            one.mark(0, 15, 0);
            refused("wrong(0) without the mark", NO_ELEMENT, () -> one.wrong(0));
            Pegboardry two = with(first(8));
            two.mark(0, 15, 3);
            refused("wrong(0) with two solutions", NO_ELEMENT, () -> two.wrong(0));
            two.give(0, 8, 2);
            two.give(0, 9, 1);
            two.give(0, 10, 4);
            due("wrong(0) when there is just one", two.wrong(0), 15);
            two.give(0, 14, 4);
            refused("wrong(0) with none", NO_ELEMENT, () -> two.wrong(0));
            // Its only solution is found by trying alone.
            Pegboardry tried = with(new int[] {0, 0, 0, 0, 0, 0, 0, 0, 0, 0, 1});
            tried.addCage(0, cells(0, 9, 11, 15), 11);
            tried.addCage(0, cells(0, 5, 8, 14), 8);
            tried.mark(0, 0, 2);
            refused("wrong(0) with a mark that rules don't find", NO_ELEMENT, () -> tried.wrong(0));
            tried.mark(0, 0, 3);
            due("wrong(0) of a puzzle that is not solved by rules", tried.wrong(0), 0);
        });
    }

    // Clarifications

    private static void clarifications() {
        edge("Rules go by the givens and cages of the puzzle as they are when a step is told, also if these came "
                + "behind the beginning of the proof.", () -> {
            Pegboardry x = withProof();
            keeps(x, 0, 2, 3);
            x.give(0, 2, 4);
            takes(x, 0, 2, 3);
            x.give(0, 2, 3);
            keeps(x, 1, 3, 4);
            takes(x, 0, 2, 4);
            x.give(0, 2, 0);
            keeps(x, 0, 2, 1);
            keeps(x, 4, 15, 4);
            x.addCage(0, cells(14, 15), 3);
            takes(x, 4, 15, 4);
            x.puzzle();
            x.give(1, 2, 2);
            x.addCage(1, cells(5, 6), 7);
            keeps(x, 0, 2, 1);
            keeps(x, 4, 5, 1);
        });
    }
}
