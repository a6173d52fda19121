import java.util.ArrayList;
import java.util.List;

/**
 * The document's sentences about exceptions: a call that throws changes nothing, and throws what is documented first.
 * Each refused call is made on one of two equal houses, which have to answer alike behind it.
 */
public final class PegboardryRefusals extends Edges {
    /** A call of a house. */
    private interface HouseCall {
        Object of(Pegboardry x);
    }

    /** A way to make a house. */
    private interface Maker {
        Pegboardry made();
    }

    public static void main(String[] args) {
        in("Exceptions");
        edge("A method that throws an exception changes nothing.", () -> {
            changesNothing("a new house", PegboardryRefusals::newHouse, callsOfANewHouse());
            changesNothing("a house with three puzzles", PegboardryRefusals::openHouse, callsOfAnOpenHouse());
            changesNothing("a full house", PegboardryRefusals::fullHouse, callsOfAFullHouse());
        });
        edge("If several exceptions apply, the one that is documented first is thrown.", () -> {
            firstOfPuzzleCalls();
            firstOfProofCalls();
            firstOfHints();
        });
        end();
    }

    // Houses

    private static Pegboardry newHouse() {
        return new Pegboardry();
    }

    /** Three puzzles: one that is neither solved nor broken, with a cage; one that is solved; one that is broken. */
    private static Pegboardry openHouse() {
        Pegboardry x = with(first(8), first(12), new int[] {1, 0, 0, 1});
        x.addCage(0, cells(0, 15), 2);
        x.mark(0, 9, 3);
        x.mark(1, 15, 3);
        x.mark(1, 13, 3);
        x.begin(1);
        x.tell(0, 0, 2);
        keeps(x, 0, 0, 1);
        return x;
    }

    /** Eight puzzles, the first with six cages, and a proof of it without a refused step. */
    private static Pegboardry fullHouse() {
        Pegboardry x = with(SQUARE);
        for (int count = 0; count < 6; count++) {
            x.addCage(0, cells(count, count + 1), SQUARE[count] + SQUARE[count + 1]);
        }
        for (int seed = 1; seed < 8; seed++) {
            x.make(seed, 3);
        }
        x.mark(0, 0, 1);
        x.mark(7, 3, 2);
        x.begin(0);
        x.tell(0, 15, 4);
        return x;
    }

    // What a house answers

    /** What can be asked, in fewer than 300 calls. */
    private static List<Object> answersOf(Pegboardry x) {
        List<Object> answers = new ArrayList<>();
        answers.add(x.reason());
        answers.add(x.checksum());
        for (int cell = 0; cell < 16; cell++) {
            int asked = cell;
            answers.add(answerOf(() -> x.candidates(asked)));
            for (int puzzle = 0; puzzle < 3; puzzle++) {
                int other = puzzle;
                answers.add(answerOf(() -> x.given(other, asked)));
                answers.add(answerOf(() -> x.marked(other, asked)));
                answers.add(answerOf(() -> x.stepAt(other, asked)));
            }
        }
        for (int puzzle = 0; puzzle < 8; puzzle++) {
            int asked = puzzle;
            answers.add(answerOf(() -> x.givens(asked)));
            answers.add(answerOf(() -> x.solutions(asked)));
            answers.add(answerOf(() -> x.solve(asked)));
            answers.add(answerOf(() -> x.steps(asked)));
            answers.add(answerOf(() -> x.isMinimal(asked)));
            answers.add(answerOf(() -> x.grade(asked)));
            answers.add(answerOf(() -> x.wrong(asked)));
            answers.add(answerOf(() -> x.hint(asked)));
            answers.add(answerOf(() -> x.areAlike(0, asked)));
            answers.add(answerOf(() -> x.areAlike(asked, 1)));
        }
        answers.add(answerOf(() -> x.isWhole()));
        answers.add(answerOf(() -> x.solvedShare()));
        answers.add(answerOf(() -> x.meanGivens()));
        answers.add(x.isSound());
        return answers;
    }

    /** What comes of calls that change the house further. */
    private static List<Object> answersOfChanges(Pegboardry x) {
        List<Object> answers = new ArrayList<>();
        answers.add(answerOf(() -> x.tell(0, 0, 3)));
        answers.add(answerOf(() -> x.tell(0, 1, 1)));
        answers.add(answerOf(() -> x.tell(1, 4, 1)));
        answers.add(x.reason());
        for (int puzzle = 0; puzzle < 3; puzzle++) {
            int asked = puzzle;
            answers.add(answerOf(() -> x.addCage(asked, cells(0, 5), 5)));
            answers.add(answerOf(() -> x.solve(asked)));
            answers.add(answerOf(() -> x.give(asked, 5, 4)));
            answers.add(answerOf(() -> x.mark(asked, 5, 4)));
            answers.add(answerOf(() -> x.steps(asked)));
        }
        answers.add(answerOf(() -> x.make(3, 2)));
        answers.add(answerOf(() -> x.puzzle()));
        answers.add(x.checksum());
        return answers;
    }

    private static void changesNothing(String house, Maker maker, HouseCall[] calls) {
        for (int i = 0; i < calls.length; i++) {
            HouseCall call = calls[i];
            Pegboardry x = maker.made();
            Pegboardry same = maker.made();
            String what = "the refused call " + i + " of " + house;
            due(what, answerOf(() -> call.of(x)) instanceof Class, true);
            due("what can be asked behind " + what, answersOf(x), answersOf(same));
            due("what comes of changes behind " + what, answersOfChanges(x), answersOfChanges(same));
        }
    }

    private static HouseCall[] callsOfANewHouse() {
        return new HouseCall[] {
            x -> x.give(0, 0, 1), x -> x.addCage(0, 3, 3), x -> x.make(-1, 1), x -> x.make(10000, 3), x -> x.make(0, 0),
            x -> x.make(0, 4), x -> x.given(0, 0), x -> x.givens(0), x -> x.solutions(0), x -> x.solution(0, 0),
            x -> x.solve(0), x -> x.steps(0), x -> x.stepAt(0, 0), x -> x.grade(0), x -> x.isMinimal(0),
            x -> x.areAlike(0, 0), x -> x.begin(0), x -> x.tell(0, 0, 1), x -> x.candidates(0), x -> x.isWhole(),
            x -> x.mark(0, 0, 1), x -> x.marked(0, 0), x -> x.wrong(0), x -> x.hint(0), x -> x.solvedShare(),
            x -> x.meanGivens(),
        };
    }

    private static HouseCall[] callsOfAnOpenHouse() {
        return new HouseCall[] {
            x -> x.give(3, 0, 1), x -> x.give(-1, 0, 1), x -> x.give(0, 16, 1), x -> x.give(0, -1, 1),
            x -> x.give(0, 0, 5), x -> x.give(0, 0, -1), x -> x.addCage(3, 3, 3), x -> x.addCage(0, 3, 1),
            x -> x.addCage(0, 3, 17), x -> x.addCage(0, 1, 3), x -> x.addCage(0, 31, 10), x -> x.addCage(1, 65537, 3),
            x -> x.make(-1, 1), x -> x.make(10000, 1), x -> x.make(1, 0), x -> x.make(1, 4), x -> x.given(3, 0),
            x -> x.given(0, 16), x -> x.givens(3), x -> x.solutions(3), x -> x.solution(3, 0), x -> x.solution(1, 16),
            x -> x.solution(0, 0), x -> x.solution(2, 0), x -> x.solve(3), x -> x.steps(3), x -> x.stepAt(3, 0),
            x -> x.stepAt(1, 48), x -> x.stepAt(1, -1), x -> x.grade(3), x -> x.grade(0), x -> x.grade(2),
            x -> x.isMinimal(3), x -> x.areAlike(0, 3), x -> x.areAlike(3, 0), x -> x.areAlike(0, 1),
            x -> x.areAlike(1, 0), x -> x.begin(3), x -> x.begin(-1), x -> x.tell(0, 16, 1), x -> x.tell(5, 0, 1),
            x -> x.tell(-1, 0, 3), x -> x.tell(0, 0, 0), x -> x.tell(0, 0, 5), x -> x.tell(2, 1, 1),
            x -> x.candidates(16), x -> x.candidates(-1), x -> x.mark(3, 0, 1), x -> x.mark(0, 16, 1),
            x -> x.mark(0, 9, 5), x -> x.mark(0, 9, -1), x -> x.marked(3, 0), x -> x.marked(0, 16), x -> x.wrong(3),
            x -> x.wrong(0), x -> x.hint(3), x -> x.hint(0), x -> x.hint(1), x -> x.hint(2),
        };
    }

    private static HouseCall[] callsOfAFullHouse() {
        return new HouseCall[] {
            x -> x.puzzle(), x -> x.make(5, 1), x -> x.make(-1, 1), x -> x.addCage(0, 3, 3), x -> x.addCage(0, 3, 17),
            x -> x.addCage(8, 3, 3), x -> x.give(8, 0, 1), x -> x.mark(8, 0, 1), x -> x.begin(8), x -> x.hint(0),
            x -> x.wrong(0), x -> x.areAlike(0, 7), x -> x.areAlike(7, 8), x -> x.stepAt(7, 48),
        };
    }

    // Which exception

    private static void firstOfPuzzleCalls() {
        Pegboardry x = openHouse();
        refused("give: no puzzle, no cell, no value", INDEX, () -> x.give(3, 16, 5));
        refused("give: no puzzle, no value", INDEX, () -> x.give(-1, 0, -1));
        refused("give: no cell, no value", INDEX, () -> x.give(0, -1, 5));
        refused("mark: no puzzle, no cell, no value", INDEX, () -> x.mark(3, 16, 5));
        refused("mark: no puzzle, no value", INDEX, () -> x.mark(-1, 0, -1));
        refused("mark: no cell, no value", INDEX, () -> x.mark(0, -1, 5));
        refused("addCage: no puzzle, no sum", INDEX, () -> x.addCage(3, 3, 17));
        refused("addCage: no puzzle, no cells", INDEX, () -> x.addCage(-1, 0, 5));
        refused("solution: no cell, two solutions", INDEX, () -> x.solution(0, 16));
        refused("solution: no cell, no solution", INDEX, () -> x.solution(2, -1));
        refused("solution: no puzzle, no cell", INDEX, () -> x.solution(3, 16));
        refused("stepAt: no puzzle, no step", INDEX, () -> x.stepAt(3, -1));
        refused("areAlike: cages, no other", INDEX, () -> x.areAlike(0, 3));
        refused("areAlike: no puzzle, cages", INDEX, () -> x.areAlike(3, 0));
        Pegboardry full = fullHouse();
        refused("addCage: no puzzle in a full house", INDEX, () -> full.addCage(8, 3, 3));
        refused("addCage: no sum, 6 cages", ARGUMENT, () -> full.addCage(0, 3, 1));
        refused("addCage: no cells, 6 cages", ARGUMENT, () -> full.addCage(0, 31, 10));
        refused("make: no seed, 8 puzzles", ARGUMENT, () -> full.make(10000, 1));
        refused("make: no highest rule, 8 puzzles", ARGUMENT, () -> full.make(1, 4));
    }

    private static void firstOfProofCalls() {
        Pegboardry none = with(SQUARE);
        refused("tell: no cell, no rule, no value, no proof", INDEX, () -> none.tell(5, 16, 5));
        refused("tell: no cell, no proof", INDEX, () -> none.tell(0, -1, 1));
        refused("tell: no rule, no proof", ARGUMENT, () -> none.tell(5, 0, 1));
        refused("tell: no value, no proof", ARGUMENT, () -> none.tell(0, 0, 0));
        refused("candidates: no cell, no proof", INDEX, () -> none.candidates(16));
        none.begin(0);
        none.tell(0, 0, 2);
        refused("tell: no cell, no rule", INDEX, () -> none.tell(-1, 16, 2));
        refused("tell: no cell, no value", INDEX, () -> none.tell(0, 16, 0));
        refused("tell: no rule, a candidate that is gone", ARGUMENT, () -> none.tell(5, 0, 2));
        due("reason()", none.reason(), 0);
    }

    private static void firstOfHints() {
        Pegboardry clash = with(squareBut(15, 2));
        refused("hint: not solved, all given", UNSUPPORTED, () -> clash.hint(0));
        Pegboardry many = withEmpty();
        for (int cell = 0; cell < 16; cell++) {
            many.mark(0, cell, SQUARE[cell]);
        }
        refused("hint: not solved, all marked", UNSUPPORTED, () -> many.hint(0));
        Pegboardry wrong = with(SQUARE);
        wrong.mark(0, 0, 2);
        refused("hint: a mark is wrong, all given", UNSUPPORTED, () -> wrong.hint(0));
        refused("hint: no puzzle", INDEX, () -> wrong.hint(1));
    }
}
