import java.util.ArrayList;
import java.util.Arrays;
import java.util.HashSet;
import java.util.List;
import java.util.NoSuchElementException;
import java.util.Random;
import java.util.Set;
import java.util.TreeSet;

/**
 * Runs of drawn calls, each answered by the class and by a slow model that is written from the document's words alone,
 * with sets where the class has bits and lists of all squares where it searches.
 */
public final class PegboardryModel {
    private static final int RUNS = 250;
    private static final int CALLS = 300;
    private static final List<int[]> SQUARES = new ArrayList<>();
    private static final List<int[]> NAMINGS = new ArrayList<>();
    private static int wrongAnswers = 0;

    private interface Call {
        Object answer();
    }

    private static final class Sheet {
        final int[] given = new int[16];
        final int[] mark = new int[16];
        final List<Set<Integer>> cages = new ArrayList<>();
        final List<Integer> sums = new ArrayList<>();
    }

    private static final class Outcome {
        List<Set<Integer>> candidates;
        final List<int[]> told = new ArrayList<>();
        char how;
    }

    private final List<Sheet> sheets = new ArrayList<>();
    private Sheet proofSheet = null;
    private List<Set<Integer>> proof = null;
    private int reason = 0;

    public static void main(String[] args) {
        fillSquares(new int[16], 0);
        fillNamings();
        for (int run = 0; run < RUNS; run++) {
            compare(run);
        }
        compareMaking();
        System.out.println(wrongAnswers == 0 ? "the model agrees" : wrongAnswers + " answers differ");
        if (wrongAnswers != 0) {
            System.exit(1);
        }
    }

    // Comparing

    private static void compare(int run) {
        Random random = new Random(run);
        Pegboardry real = new Pegboardry();
        PegboardryModel model = new PegboardryModel();
        int most = 1 + random.nextInt(8);
        for (int i = 0; i < CALLS && wrongAnswers < 20; i++) {
            one(run, random, real, model, most);
        }
    }

    private static void same(int run, String call, Call real, Call model) {
        Object got = answerOf(real);
        Object want = answerOf(model);
        if (!want.equals(got)) {
            wrongAnswers++;
            System.out.println("run " + run + ": " + call + " answered " + got + ", the model says " + want);
        }
    }

    private static Object answerOf(Call call) {
        try {
            return call.answer();
        } catch (RuntimeException e) {
            return e.getClass();
        }
    }

    private static int near(Random random, int count) {
        return random.nextInt(25) == 0 ? new int[] {-1, count, count + 1, -count}[random.nextInt(4)]
                : random.nextInt(Math.max(1, count));
    }

    private static void one(int run, Random random, Pegboardry x, PegboardryModel m, int most) {
        int p = near(random, m.sheets.size());
        int q = near(random, m.sheets.size());
        int c = near(random, 16);
        int v = near(random, 5);
        int kind = random.nextInt(34);
        if (kind < 8) {
            change(run, random, x, m, most, kind, new int[] {p, c, v});
        } else if (kind < 14) {
            int[] step = m.likelyStep(random);
            same(run, "tell" + Arrays.toString(step), () -> x.tell(step[0], step[1], step[2]),
                    () -> m.tell(step[0], step[1], step[2]));
        } else {
            ask(run, random, x, m, kind, new int[] {p, q, c});
        }
    }

    private static void change(int run, Random random, Pegboardry x, PegboardryModel m, int most, int kind, int[] a) {
        int p = a[0];
        int c = a[1];
        int v = a[2];
        switch (kind) {
            case 0:
                if (m.sheets.size() < most || random.nextInt(30) == 0) {
                    same(run, "puzzle()", x::puzzle, m::puzzle);
                }
                break;
            case 1:
                int seed = random.nextInt(20) == 0 ? -1 : random.nextInt(10000);
                int highest = 1 + near(random, 3);
                if (m.sheets.size() < most || random.nextInt(30) == 0) {
                    same(run, "make(" + seed + ", " + highest + ")", () -> x.make(seed, highest),
                            () -> m.make(seed, highest));
                }
                break;
            case 2:
                int cells = random.nextInt(8) == 0 ? random.nextInt(1 << 17) - 100 : drawnCells(random);
                int sum = random.nextInt(20) == 0 ? random.nextInt(40) - 10 : drawnSum(random, cells);
                same(run, "addCage(" + p + ", " + cells + ", " + sum + ")", () -> x.addCage(p, cells, sum),
                        () -> m.addCage(p, cells, sum));
                break;
            case 3:
                int seen = random.nextInt(4) == 0 ? v : m.likelyValue(p, c, v);
                same(run, "mark(" + p + ", " + c + ", " + seen + ")", () -> x.mark(p, c, seen),
                        () -> m.mark(p, c, seen));
                break;
            case 4:
                same(run, "begin(" + p + ")", () -> x.begin(p), () -> m.begin(p));
                break;
            default:
                int likely = random.nextInt(6) == 0 ? v : m.likelyValue(p, c, v);
                same(run, "give(" + p + ", " + c + ", " + likely + ")", () -> x.give(p, c, likely),
                        () -> m.give(p, c, likely));
                break;
        }
    }

    private static void ask(int run, Random random, Pegboardry x, PegboardryModel m, int kind, int[] a) {
        int p = a[0];
        int q = a[1];
        int c = a[2];
        int step = random.nextInt(52) - 1;
        String at = "(" + p + ", " + c + ")";
        switch (kind) {
            case 14 -> same(run, "given" + at, () -> x.given(p, c), () -> m.row(p, c).given[c]);
            case 15 -> same(run, "givens " + p, () -> x.givens(p), () -> m.givens(p));
            case 16 -> same(run, "solutions " + p, () -> x.solutions(p), () -> Math.min(2, m.found(m.at(p)).size()));
            case 17 -> same(run, "solution" + at, () -> x.solution(p, c), () -> m.solution(p, c));
            case 18 -> same(run, "solve " + p, () -> x.solve(p), () -> m.solve(m.at(p), 4).how);
            case 19 -> same(run, "steps " + p, () -> x.steps(p), () -> m.solve(m.at(p), 4).told.size());
            case 20, 21 -> same(run, "stepAt " + p + " " + step, () -> x.stepAt(p, step), () -> m.stepAt(p, step));
            case 22 -> same(run, "grade " + p, () -> x.grade(p), () -> m.grade(p));
            case 23 -> same(run, "isMinimal " + p, () -> x.isMinimal(p), () -> m.isMinimal(p));
            case 24 -> same(run, "areAlike " + p + " " + q, () -> x.areAlike(p, q), () -> m.areAlike(p, q));
            case 25 -> same(run, "reason", x::reason, () -> m.reason);
            case 26 -> same(run, "candidates " + c, () -> x.candidates(c), () -> m.candidates(c));
            case 27 -> same(run, "isWhole", x::isWhole, m::isWhole);
            case 28 -> same(run, "marked" + at, () -> x.marked(p, c), () -> m.row(p, c).mark[c]);
            case 29 -> same(run, "wrong " + p, () -> x.wrong(p), () -> m.wrong(p));
            case 30 -> same(run, "hint " + p, () -> x.hint(p), () -> m.hint(p));
            case 31 -> same(run, "checksum", x::checksum, m::checksum);
            case 32 -> same(run, "solvedShare", x::solvedShare, m::solvedShare);
            default -> {
                same(run, "meanGivens", x::meanGivens, m::meanGivens);
                same(run, "isSound", x::isSound, m::isSound);
            }
        }
    }

    private static void compareMaking() {
        for (int seed = 0; seed < 10000 && wrongAnswers < 20; seed += 41) {
            Pegboardry x = new Pegboardry();
            PegboardryModel m = new PegboardryModel();
            int drawn = seed;
            for (int highest = 1; highest <= 3; highest++) {
                int rule = highest;
                same(seed, "make(" + seed + ", " + rule + ")", () -> x.make(drawn, rule), () -> m.make(drawn, rule));
                same(seed, "grade", () -> x.grade(rule - 1), () -> m.grade(rule - 1));
            }
            same(seed, "checksum", x::checksum, m::checksum);
        }
    }

    private static int drawnCells(Random random) {
        int cells = 0;
        int count = 2 + random.nextInt(3);
        while (Integer.bitCount(cells) < count) {
            cells |= 1 << random.nextInt(16);
        }
        return cells;
    }

    private static int drawnSum(Random random, int cells) {
        if (random.nextInt(6) == 0) {
            return 2 + random.nextInt(15);
        }
        int sum = 0;
        for (int cell = 0; cell < 16; cell++) {
            sum += (cells >> cell & 1) * SQUARES.get(200)[cell];
        }
        return sum;
    }

    private int likelyValue(int puzzle, int cell, int otherwise) {
        if (puzzle < 0 || puzzle >= sheets.size() || cell < 0 || cell > 15) {
            return otherwise;
        }
        List<int[]> found = found(sheets.get(puzzle));
        return found.isEmpty() ? 0 : found.get(found.size() / 2)[cell];
    }

    private int[] likelyStep(Random random) {
        int[] drawn = {near(random, 5), near(random, 16), near(random, 5)};
        if (proof == null || random.nextInt(3) == 0) {
            return drawn;
        }
        List<int[]> possible = new ArrayList<>();
        for (int rule = 0; rule <= 4; rule++) {
            for (int cell = 0; cell < 16; cell++) {
                for (int value : proof.get(cell)) {
                    if (takesAway(proofSheet, proof, rule, cell, value)) {
                        possible.add(new int[] {rule, cell, value});
                    }
                }
            }
        }
        return possible.isEmpty() ? drawn : possible.get(random.nextInt(possible.size()));
    }

    // All squares, and all ways to give the values other names

    private static void fillSquares(int[] square, int cell) {
        if (cell == 16) {
            SQUARES.add(square.clone());
            return;
        }
        for (int value = 1; value <= 4; value++) {
            boolean free = true;
            for (int other : linesOf(cell)) {
                free = free && (other > cell || square[other] != value);
            }
            if (free) {
                square[cell] = value;
                fillSquares(square, cell + 1);
            }
        }
    }

    private static void fillNamings() {
        for (int code = 0; code < 256; code++) {
            int[] naming = {0, 1 + code % 4, 1 + code / 4 % 4, 1 + code / 16 % 4, 1 + code / 64};
            if (new HashSet<>(Arrays.asList(naming[1], naming[2], naming[3], naming[4])).size() == 4) {
                NAMINGS.add(naming);
            }
        }
    }

    private static List<List<Integer>> linesThrough(int cell) {
        List<Integer> row = new ArrayList<>();
        List<Integer> column = new ArrayList<>();
        for (int other = 0; other < 16; other++) {
            if (other != cell && other / 4 == cell / 4) {
                row.add(other);
            }
            if (other != cell && other % 4 == cell % 4) {
                column.add(other);
            }
        }
        return List.of(row, column);
    }

    private static List<Integer> linesOf(int cell) {
        List<Integer> both = new ArrayList<>(linesThrough(cell).get(0));
        both.addAll(linesThrough(cell).get(1));
        return both;
    }

    // The calls

    private Sheet at(int puzzle) {
        if (puzzle < 0 || puzzle >= sheets.size()) {
            throw new IndexOutOfBoundsException();
        }
        return sheets.get(puzzle);
    }

    private Sheet row(int puzzle, int cell) {
        Sheet sheet = at(puzzle);
        if (cell < 0 || cell > 15) {
            throw new IndexOutOfBoundsException();
        }
        return sheet;
    }

    private int puzzle() {
        return added(new Sheet());
    }

    private int added(Sheet sheet) {
        if (sheets.size() == 8) {
            throw new IllegalStateException();
        }
        sheets.add(sheet);
        return sheets.size() - 1;
    }

    private int put(int[] values, int cell, int value) {
        if (value < 0 || value > 4) {
            throw new IllegalArgumentException();
        }
        int before = values[cell];
        values[cell] = value;
        return before;
    }

    private int give(int puzzle, int cell, int value) {
        return put(row(puzzle, cell).given, cell, value);
    }

    private int mark(int puzzle, int cell, int value) {
        return put(row(puzzle, cell).mark, cell, value);
    }

    private int addCage(int puzzle, int cells, int sum) {
        Sheet sheet = at(puzzle);
        Set<Integer> cage = new TreeSet<>();
        for (int cell = 0; cell < 32; cell++) {
            if ((cells >>> cell & 1) == 1) {
                cage.add(cell);
            }
        }
        boolean outside = cage.stream().anyMatch(cell -> cell > 15);
        if (sum < 2 || sum > 16 || outside || cage.size() < 2 || cage.size() > 4) {
            throw new IllegalArgumentException();
        }
        if (sheet.cages.size() == 6) {
            throw new UnsupportedOperationException();
        }
        sheet.cages.add(cage);
        sheet.sums.add(sum);
        return sheet.cages.size();
    }

    private int make(int seed, int highest) {
        if (seed < 0 || seed > 9999 || highest < 1 || highest > 3) {
            throw new IllegalArgumentException();
        }
        long[] z = {seed};
        int[][] grid = new int[4][4];
        for (int row = 0; row < 4; row++) {
            for (int column = 0; column < 4; column++) {
                grid[row][column] = 1 + (row + column) % 4;
            }
        }
        for (int k = 3; k >= 1; k--) {
            int other = draw(z, k + 1);
            int[] moved = grid[k];
            grid[k] = grid[other];
            grid[other] = moved;
        }
        for (int k = 3; k >= 1; k--) {
            int other = draw(z, k + 1);
            for (int[] row : grid) {
                int moved = row[k];
                row[k] = row[other];
                row[other] = moved;
            }
        }
        List<Integer> names = new ArrayList<>(List.of(1, 2, 3, 4));
        for (int k = 3; k >= 1; k--) {
            java.util.Collections.swap(names, k, draw(z, k + 1));
        }
        Sheet made = new Sheet();
        for (int cell = 0; cell < 16; cell++) {
            made.given[cell] = names.get(grid[cell / 4][cell % 4] - 1);
        }
        for (int i = 0; i < 16; i++) {
            int cell = draw(z, 16);
            int value = made.given[cell];
            made.given[cell] = 0;
            if (solve(made, highest).how != 's') {
                made.given[cell] = value;
            }
        }
        return added(made);
    }

    private static int draw(long[] z, int below) {
        z[0] = Math.floorMod(z[0] * 1103515245L + 12345L, 1L << 31);
        return (int) Math.floorMod(Math.floorDiv(z[0], 65536L), (long) below);
    }

    private int givens(int puzzle) {
        return (int) Arrays.stream(at(puzzle).given).filter(value -> value != 0).count();
    }

    private List<int[]> found(Sheet sheet) {
        return foundWithout(sheet, -1);
    }

    private List<int[]> foundWithout(Sheet sheet, int without) {
        List<int[]> found = new ArrayList<>();
        for (int[] square : SQUARES) {
            boolean fits = true;
            for (int cell = 0; cell < 16; cell++) {
                fits = fits && (cell == without || sheet.given[cell] == 0 || sheet.given[cell] == square[cell]);
            }
            for (int i = 0; i < sheet.cages.size(); i++) {
                fits = fits && sheet.cages.get(i).stream().mapToInt(cell -> square[cell]).sum() == sheet.sums.get(i);
            }
            if (fits) {
                found.add(square);
            }
        }
        return found;
    }

    private int solution(int puzzle, int cell) {
        List<int[]> found = found(row(puzzle, cell));
        if (found.size() != 1) {
            throw new NoSuchElementException();
        }
        return found.get(0)[cell];
    }

    private static List<Set<Integer>> allCandidates() {
        List<Set<Integer>> all = new ArrayList<>();
        for (int cell = 0; cell < 16; cell++) {
            all.add(new TreeSet<>(List.of(1, 2, 3, 4)));
        }
        return all;
    }

    private Outcome solve(Sheet sheet, int highest) {
        Outcome outcome = new Outcome();
        outcome.candidates = allCandidates();
        int[] step = nextStep(sheet, outcome.candidates, highest);
        while (step != null) {
            outcome.candidates.get(step[1]).remove(step[2]);
            outcome.told.add(step);
            boolean broken = outcome.candidates.get(step[1]).isEmpty();
            step = broken ? null : nextStep(sheet, outcome.candidates, highest);
        }
        boolean broken = outcome.candidates.stream().anyMatch(Set::isEmpty);
        boolean solved = outcome.candidates.stream().allMatch(set -> set.size() == 1);
        outcome.how = broken ? 'b' : solved ? 's' : 'n';
        return outcome;
    }

    private static int[] nextStep(Sheet sheet, List<Set<Integer>> candidates, int highest) {
        for (int rule = 0; rule <= highest; rule++) {
            for (int cell = 0; cell < 16; cell++) {
                for (int value : candidates.get(cell)) {
                    if (takesAway(sheet, candidates, rule, cell, value)) {
                        return new int[] {rule, cell, value};
                    }
                }
            }
        }
        return null;
    }

    private static boolean takesAway(Sheet sheet, List<Set<Integer>> candidates, int rule, int cell, int value) {
        if (rule == 0) {
            return sheet.given[cell] != 0 && sheet.given[cell] != value;
        }
        if (rule == 4) {
            return cagesTakeAway(sheet, candidates, cell, value);
        }
        for (List<Integer> line : linesThrough(cell)) {
            if (rule == 1 && line.stream().anyMatch(other -> candidates.get(other).equals(Set.of(value)))) {
                return true;
            }
            for (int some : candidates.get(cell)) {
                if (rule == 2 && some != value && line.stream().noneMatch(o -> candidates.get(o).contains(some))) {
                    return true;
                }
            }
            for (int one : line) {
                for (int two : line) {
                    if (rule == 3 && one != two && candidates.get(one).size() == 2
                            && candidates.get(one).equals(candidates.get(two)) && candidates.get(one).contains(value)) {
                        return true;
                    }
                }
            }
        }
        return false;
    }

    private static boolean cagesTakeAway(Sheet sheet, List<Set<Integer>> candidates, int cell, int value) {
        for (int i = 0; i < sheet.cages.size(); i++) {
            List<Integer> cage = new ArrayList<>(sheet.cages.get(i));
            if (cage.contains(cell)) {
                boolean can = false;
                for (int code = 0; code < 256; code++) {
                    can = can || isChoice(cage, candidates, cell, value, code, sheet.sums.get(i));
                }
                if (!can) {
                    return true;
                }
            }
        }
        return false;
    }

    private static boolean isChoice(List<Integer> cage, List<Set<Integer>> candidates, int cell, int value, int code,
            int sum) {
        int[] chosen = new int[16];
        int total = 0;
        for (int k = 0; k < cage.size(); k++) {
            int each = cage.get(k);
            chosen[each] = 1 + (code >> 2 * k & 3);
            total += chosen[each];
            if (each == cell ? chosen[each] != value : !candidates.get(each).contains(chosen[each])) {
                return false;
            }
        }
        for (int each : cage) {
            for (int other : linesOf(each)) {
                if (chosen[other] == chosen[each]) {
                    return false;
                }
            }
        }
        return total == sum;
    }

    private int stepAt(int puzzle, int step) {
        List<int[]> told = solve(at(puzzle), 4).told;
        if (step < 0 || step >= told.size()) {
            throw new NoSuchElementException();
        }
        return 100 * told.get(step)[0] + 5 * told.get(step)[1] + told.get(step)[2];
    }

    private int grade(int puzzle) {
        Outcome outcome = solve(at(puzzle), 4);
        if (outcome.how != 's') {
            throw new UnsupportedOperationException();
        }
        int highest = outcome.told.stream().mapToInt(step -> step[0]).max().orElse(0);
        return 100 * highest + (int) outcome.told.stream().filter(step -> step[0] == highest).count();
    }

    private boolean isMinimal(int puzzle) {
        Sheet sheet = at(puzzle);
        boolean minimal = found(sheet).size() == 1;
        for (int cell = 0; cell < 16; cell++) {
            minimal = minimal && (sheet.given[cell] == 0 || foundWithout(sheet, cell).size() != 1);
        }
        return minimal;
    }

    private boolean areAlike(int puzzle, int other) {
        int[] picture = at(puzzle).given;
        int[] wanted = at(other).given;
        if (at(puzzle).cages.size() + at(other).cages.size() > 0) {
            throw new UnsupportedOperationException();
        }
        for (int side = 0; side < 2; side++) {
            for (int turn = 0; turn < 4; turn++) {
                for (int[] naming : NAMINGS) {
                    int[] renamed = Arrays.stream(picture).map(value -> naming[value]).toArray();
                    if (Arrays.equals(renamed, wanted)) {
                        return true;
                    }
                }
                int[] turned = new int[16];
                for (int cell = 0; cell < 16; cell++) {
                    turned[cell % 4 * 4 + 3 - cell / 4] = picture[cell];
                }
                picture = turned;
            }
            int[] behind = new int[16];
            for (int cell = 0; cell < 16; cell++) {
                behind[cell / 4 * 4 + 3 - cell % 4] = picture[cell];
            }
            picture = behind;
        }
        return false;
    }

    private int begin(int puzzle) {
        proofSheet = at(puzzle);
        proof = allCandidates();
        reason = 0;
        return 64;
    }

    private int tell(int rule, int cell, int value) {
        if (cell < 0 || cell > 15) {
            throw new IndexOutOfBoundsException();
        }
        if (rule < 0 || rule > 4 || value < 1 || value > 4) {
            throw new IllegalArgumentException();
        }
        if (proof == null) {
            throw new IllegalStateException();
        }
        boolean gone = !proof.get(cell).contains(value);
        if (gone || !takesAway(proofSheet, proof, rule, cell, value)) {
            reason = gone ? 1 : 2;
            throw new UnsupportedOperationException();
        }
        proof.get(cell).remove(value);
        return proof.stream().mapToInt(Set::size).sum();
    }

    private int candidates(int cell) {
        if (cell < 0 || cell > 15) {
            throw new IndexOutOfBoundsException();
        }
        isWhole();
        return proof.get(cell).stream().mapToInt(value -> new int[] {0, 1, 2, 4, 8}[value]).sum();
    }

    private boolean isWhole() {
        if (proof == null) {
            throw new IllegalStateException();
        }
        return proof.stream().allMatch(set -> set.size() == 1);
    }

    private int wrong(int puzzle) {
        Sheet sheet = at(puzzle);
        List<int[]> found = found(sheet);
        for (int cell = 0; cell < 16; cell++) {
            if (found.size() == 1 && sheet.mark[cell] != 0 && sheet.mark[cell] != found.get(0)[cell]) {
                return cell;
            }
        }
        throw new NoSuchElementException();
    }

    private boolean hasWrong(int puzzle) {
        try {
            wrong(puzzle);
            return true;
        } catch (NoSuchElementException none) {
            return false;
        }
    }

    private int hint(int puzzle) {
        Sheet sheet = at(puzzle);
        Outcome outcome = solve(sheet, 4);
        if (outcome.how != 's' || hasWrong(puzzle)) {
            throw new UnsupportedOperationException();
        }
        List<Set<Integer>> left = allCandidates();
        for (int[] step : outcome.told) {
            left.get(step[1]).remove(step[2]);
            boolean open = sheet.given[step[1]] == 0 && sheet.mark[step[1]] == 0;
            if (open && left.get(step[1]).size() == 1) {
                return 10 * step[1] + left.get(step[1]).iterator().next();
            }
        }
        throw new NoSuchElementException();
    }

    private long checksum() {
        long sum = 0;
        for (Sheet sheet : sheets) {
            for (int cell = 0; cell < 16; cell++) {
                sum = 31 * sum + sheet.given[cell] + 5 * sheet.mark[cell];
            }
        }
        return sum;
    }

    private float solvedShare() {
        if (sheets.isEmpty()) {
            throw new ArithmeticException();
        }
        return (float) sheets.stream().filter(sheet -> solve(sheet, 4).how == 's').count() / (float) sheets.size();
    }

    private double meanGivens() {
        if (sheets.isEmpty()) {
            throw new ArithmeticException();
        }
        int sum = 0;
        for (int i = 0; i < sheets.size(); i++) {
            sum += givens(i);
        }
        return (double) sum / (double) sheets.size();
    }

    private boolean isSound() {
        for (Sheet sheet : sheets) {
            Outcome outcome = solve(sheet, 4);
            List<int[]> found = found(sheet);
            if (outcome.how == 'b' && !found.isEmpty() || outcome.how == 's' && found.size() != 1) {
                return false;
            }
            for (int cell = 0; cell < 16; cell++) {
                if (outcome.how == 's' && !outcome.candidates.get(cell).contains(found.get(0)[cell])) {
                    return false;
                }
            }
        }
        return true;
    }
}
