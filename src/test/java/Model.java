import java.util.ArrayDeque;
import java.util.ArrayList;
import java.util.Deque;
import java.util.List;
import java.util.NoSuchElementException;

/** The document put in the plainest words, to compare the class with: it copies and counts anew all the time. */
final class Model {
    private static final class Sheet {
        int rows;
        int columns;
        Integer[][] signs;
        int[] toldRows;
        int[] toldColumns;
        int original = -1;
        int mended;
        int filled;

        Sheet(int rows, int columns) {
            this.rows = rows;
            this.columns = columns;
            signs = new Integer[rows][columns];
            for (Integer[] row : signs) {
                java.util.Arrays.fill(row, 0);
            }
        }

        Sheet twin() {
            Sheet twin = new Sheet(rows, columns);
            for (int row = 0; row < rows; row++) {
                twin.signs[row] = signs[row].clone();
            }
            twin.toldRows = toldRows == null ? null : toldRows.clone();
            twin.toldColumns = toldColumns == null ? null : toldColumns.clone();
            twin.original = original;
            twin.mended = mended;
            twin.filled = filled;
            return twin;
        }

        boolean sealed() {
            return toldRows != null;
        }

        List<Integer> row(int row) {
            return java.util.Arrays.asList(signs[row]);
        }

        List<Integer> column(int column) {
            List<Integer> all = new ArrayList<>();
            for (Integer[] row : signs) {
                all.add(row[column]);
            }
            return all;
        }

        List<Integer> all() {
            List<Integer> all = new ArrayList<>();
            for (int row = 0; row < rows; row++) {
                all.addAll(row(row));
            }
            return all;
        }

        int smudged() {
            return smudged(all());
        }

        static int smudged(List<Integer> cells) {
            return (int) cells.stream().filter(sign -> sign == null).count();
        }

        static int sum(List<Integer> cells) {
            return cells.stream().mapToInt(sign -> sign == null ? 0 : sign).sum() % 10;
        }

        int rowFault(int row) {
            return (toldRows[row] - sum(row(row)) + 10) % 10;
        }

        int columnFault(int column) {
            return (toldColumns[column] - sum(column(column)) + 10) % 10;
        }

        List<Integer> wrongRows() {
            List<Integer> wrong = new ArrayList<>();
            for (int row = 0; sealed() && row < rows; row++) {
                if (smudged(row(row)) == 0 && rowFault(row) != 0) {
                    wrong.add(row);
                }
            }
            return wrong;
        }

        List<Integer> wrongColumns() {
            List<Integer> wrong = new ArrayList<>();
            for (int column = 0; sealed() && column < columns; column++) {
                if (smudged(column(column)) == 0 && columnFault(column) != 0) {
                    wrong.add(column);
                }
            }
            return wrong;
        }

        boolean doubtful(int row, int column) {
            return signs[row][column] == null || wrongRows().contains(row) && wrongColumns().contains(column);
        }

        int doubts() {
            List<Integer> wrongRows = wrongRows();
            List<Integer> wrongColumns = wrongColumns();
            int doubts = 0;
            for (int row = 0; row < rows; row++) {
                for (int column = 0; column < columns; column++) {
                    boolean crossed = wrongRows.contains(row) && wrongColumns.contains(column);
                    doubts += signs[row][column] == null || crossed ? 1 : 0;
                }
            }
            return doubts;
        }

        int fillIn() {
            int cells = 0;
            while (fillOne()) {
                cells++;
            }
            return cells;
        }

        private boolean fillOne() {
            for (int row = 0; row < rows; row++) {
                if (smudged(row(row)) == 1) {
                    signs[row][row(row).indexOf(null)] = rowFault(row);
                    return true;
                }
            }
            for (int column = 0; column < columns; column++) {
                if (smudged(column(column)) == 1) {
                    signs[column(column).indexOf(null)][column] = columnFault(column);
                    return true;
                }
            }
            return false;
        }
    }

    private static final class State {
        final List<Sheet> sheets = new ArrayList<>();
        final int[] soFar = new int[4];

        State twin() {
            State twin = new State();
            for (Sheet sheet : sheets) {
                twin.sheets.add(sheet.twin());
            }
            System.arraycopy(soFar, 0, twin.soFar, 0, 4);
            return twin;
        }
    }

    private State state = new State();
    private State saved;
    private final Deque<State> past = new ArrayDeque<>();
    private boolean inText;
    private String input = "";
    private String lineText = "";
    private int errorAt = -1;
    private int reason;
    private int detail;

    private Sheet sheet(int scroll) {
        if (scroll < 0 || scroll >= state.sheets.size()) {
            throw new IndexOutOfBoundsException();
        }
        return state.sheets.get(scroll);
    }

    private Sheet sheet(int scroll, int row, int column) {
        Sheet sheet = sheet(scroll);
        if (row < 0 || row >= sheet.rows || column < 0 || column >= sheet.columns) {
            throw new IndexOutOfBoundsException();
        }
        return sheet;
    }

    private static void argument(boolean holds) {
        if (!holds) {
            throw new IllegalArgumentException();
        }
    }

    private static void element(boolean holds) {
        if (!holds) {
            throw new NoSuchElementException();
        }
    }

    private void refuse(boolean applies, int why, int detailOfIt) {
        if (applies) {
            reason = why;
            detail = detailOfIt;
            throw new UnsupportedOperationException();
        }
    }

    private void remember() {
        if (!inText) {
            past.addLast(state.twin());
            if (past.size() > 8) {
                past.removeFirst();
            }
        }
    }

    int scroll(int rows, int columns) {
        argument(rows >= 1 && rows <= 6 && columns >= 1 && columns <= 8);
        refuse(state.sheets.size() == 5, 1, 5);
        remember();
        state.sheets.add(new Sheet(rows, columns));
        return state.sheets.size() - 1;
    }

    int scrollOf(int scroll, int what) {
        Sheet sheet = sheet(scroll);
        argument(what >= 0 && what <= 6);
        int[] all = {sheet.rows, sheet.columns, sheet.sealed() ? 1 : 0, sheet.original, sheet.smudged(), sheet.mended,
            sheet.filled};
        return all[what];
    }

    int write(int scroll, int row, int column, int sign) {
        Sheet sheet = sheet(scroll, row, column);
        argument(sign >= 0 && sign <= 9);
        remember();
        int before = signAt(scroll, row, column);
        sheet.signs[row][column] = sign;
        return before;
    }

    int signAt(int scroll, int row, int column) {
        Integer sign = sheet(scroll, row, column).signs[row][column];
        return sign == null ? -1 : sign;
    }

    int seal(int scroll) {
        Sheet sheet = sheet(scroll);
        refuse(sheet.smudged() > 0, 2, sheet.smudged());
        remember();
        sheet.toldRows = new int[sheet.rows];
        sheet.toldColumns = new int[sheet.columns];
        for (int row = 0; row < sheet.rows; row++) {
            sheet.toldRows[row] = Sheet.sum(sheet.row(row));
        }
        for (int column = 0; column < sheet.columns; column++) {
            sheet.toldColumns[column] = Sheet.sum(sheet.column(column));
        }
        return java.util.Arrays.stream(sheet.toldRows).sum();
    }

    int copy(int scroll) {
        Sheet sheet = sheet(scroll);
        refuse(state.sheets.size() == 5, 1, 5);
        remember();
        Sheet twin = sheet.twin();
        twin.original = scroll;
        twin.mended = 0;
        twin.filled = 0;
        state.sheets.add(twin);
        return state.sheets.size() - 1;
    }

    int slip(int scroll, int row, int column, int by) {
        Sheet sheet = sheet(scroll, row, column);
        argument(by >= 1 && by <= 9);
        refuse(sheet.signs[row][column] == null, 3, 10 * row + column);
        remember();
        state.soFar[0]++;
        sheet.signs[row][column] = (sheet.signs[row][column] + by) % 10;
        return sheet.signs[row][column];
    }

    int smudge(int scroll, int row, int column) {
        Sheet sheet = sheet(scroll, row, column);
        refuse(sheet.signs[row][column] == null, 3, 10 * row + column);
        remember();
        state.soFar[1]++;
        sheet.signs[row][column] = null;
        return sheet.smudged();
    }

    int rowSum(int scroll, int row) {
        Sheet sheet = sheet(scroll, row, 0);
        element(sheet.sealed());
        return sheet.toldRows[row];
    }

    int columnSum(int scroll, int column) {
        Sheet sheet = sheet(scroll, 0, column);
        element(sheet.sealed());
        return sheet.toldColumns[column];
    }

    int rowFault(int scroll, int row) {
        Sheet sheet = sheet(scroll, row, 0);
        element(sheet.sealed());
        return sheet.rowFault(row);
    }

    int columnFault(int scroll, int column) {
        Sheet sheet = sheet(scroll, 0, column);
        element(sheet.sealed());
        return sheet.columnFault(column);
    }

    int wrongRows(int scroll) {
        element(sheet(scroll).sealed());
        return sheet(scroll).wrongRows().size();
    }

    int wrongColumns(int scroll) {
        element(sheet(scroll).sealed());
        return sheet(scroll).wrongColumns().size();
    }

    boolean isInDoubt(int scroll, int row, int column) {
        return sheet(scroll, row, column).doubtful(row, column);
    }

    int doubts(int scroll) {
        return sheet(scroll).doubts();
    }

    int mend(int scroll) {
        Sheet sheet = sheet(scroll);
        refuse(!sheet.sealed(), 4, scroll);
        refuse(sheet.smudged() > 0, 2, sheet.smudged());
        int rows = sheet.wrongRows().size();
        int columns = sheet.wrongColumns().size();
        refuse(rows + columns == 0, 5, 0);
        refuse(rows != 1 || columns != 1, 6, 10 * rows + columns);
        int row = sheet.wrongRows().get(0);
        int column = sheet.wrongColumns().get(0);
        int fault = sheet.rowFault(row);
        refuse(fault != sheet.columnFault(column), 7, 10 * fault + sheet.columnFault(column));
        remember();
        state.soFar[2]++;
        sheet.mended++;
        sheet.signs[row][column] = (sheet.signs[row][column] + fault) % 10;
        return 10 * row + column;
    }

    /** Mends for a try, and takes it back. */
    int wouldMend(int scroll) {
        sheet(scroll);
        State before = state.twin();
        int reasonBefore = reason;
        int detailBefore = detail;
        boolean inTextBefore = inText;
        inText = true;
        try {
            return mend(scroll);
        } catch (UnsupportedOperationException refused) {
            throw new NoSuchElementException();
        } finally {
            inText = inTextBefore;
            reason = reasonBefore;
            detail = detailBefore;
            state = before;
        }
    }

    int fill(int scroll) {
        Sheet sheet = sheet(scroll);
        refuse(!sheet.sealed(), 4, scroll);
        remember();
        int cells = sheet.fillIn();
        sheet.filled += cells;
        state.soFar[3] += cells;
        return cells;
    }

    int wouldFill(int scroll, int row, int column) {
        Sheet sheet = sheet(scroll, row, column);
        element(sheet.sealed() && sheet.signs[row][column] == null);
        Sheet twin = sheet.twin();
        twin.fillIn();
        element(twin.signs[row][column] != null);
        return twin.signs[row][column];
    }

    int differ(int scroll, int other) {
        Sheet first = sheet(scroll);
        Sheet second = sheet(other);
        argument(first.rows == second.rows && first.columns == second.columns);
        List<Integer> signs = first.all();
        int differ = 0;
        for (int at = 0; at < signs.size(); at++) {
            differ += java.util.Objects.equals(signs.get(at), second.all().get(at)) ? 0 : 1;
        }
        return differ;
    }

    int ranked(int place) {
        List<Integer> order = new ArrayList<>();
        for (int scroll = 0; scroll < state.sheets.size(); scroll++) {
            order.add(scroll);
        }
        order.sort(java.util.Comparator.comparing((Integer scroll) -> sheet(scroll).doubts())
            .thenComparing(scroll -> -sheet(scroll).rows * sheet(scroll).columns));
        element(place >= 0 && place < order.size());
        return order.get(place);
    }

    int count(int scroll, int sign) {
        Sheet sheet = sheet(scroll);
        argument(sign >= 0 && sign <= 9);
        return java.util.Collections.frequency(sheet.all(), sign);
    }

    int line(int scroll, int row) {
        Sheet sheet = sheet(scroll, row, 0);
        String line = "";
        for (Integer sign : sheet.row(row)) {
            line += sign == null ? "?" : "" + sign;
        }
        if (sheet.sealed()) {
            line += "|" + sheet.toldRows[row];
        }
        if (sheet.wrongRows().contains(row)) {
            line += "!";
        }
        lineText = line;
        return line.length();
    }

    char character(int index) {
        if (index < 0 || index >= lineText.length()) {
            throw new IndexOutOfBoundsException();
        }
        return lineText.charAt(index);
    }

    int append(char c) {
        if (input.length() == 60) {
            throw new IllegalStateException();
        }
        input += c;
        return input.length();
    }

    int read() {
        String text = input;
        input = "";
        errorAt = TextsTest.errorOf(text);
        argument(errorAt == -1);
        State before = state.twin();
        inText = true;
        boolean done = false;
        try {
            for (String order : text.split(";")) {
                carryOut(order);
            }
            done = true;
        } catch (IndexOutOfBoundsException noPlace) {
            throw new IllegalArgumentException();
        } finally {
            inText = false;
            State behind = state;
            state = before;
            if (done) {
                remember();
                state = behind;
            }
        }
        return text.split(";").length;
    }

    private void carryOut(String order) {
        int[] numbers = new int[4];
        for (int at = 1; at < order.length(); at += 2) {
            numbers[at / 2] = order.charAt(at) - '0';
        }
        switch (order.charAt(0)) {
            case 'w' -> write(numbers[0], numbers[1], numbers[2], numbers[3]);
            case 'e' -> slip(numbers[0], numbers[1], numbers[2], numbers[3]);
            case 'x' -> smudge(numbers[0], numbers[1], numbers[2]);
            case 's' -> seal(numbers[0]);
            case 'c' -> copy(numbers[0]);
            case 'm' -> mend(numbers[0]);
            default -> fill(numbers[0]);
        }
    }

    int errorPosition() {
        return errorAt;
    }

    int refusal(boolean isDetail) {
        element(reason != 0);
        return isDetail ? detail : reason;
    }

    int account(int what) {
        argument(what >= 0 && what <= 11);
        int[] all = new int[12];
        for (Sheet sheet : state.sheets) {
            all[0]++;
            all[1] += sheet.sealed() ? 1 : 0;
            all[2] += sheet.original >= 0 ? 1 : 0;
            all[3] += sheet.all().size();
            all[4] += sheet.smudged();
            all[5] += sheet.doubts();
        }
        System.arraycopy(state.soFar, 0, all, 6, 4);
        all[10] = input.length();
        all[11] = past.size();
        return all[what];
    }

    double meanSign(int scroll) {
        Sheet sheet = sheet(scroll);
        double sum = 0;
        double number = 0;
        for (Integer sign : sheet.all()) {
            sum += sign == null ? 0 : sign;
            number += sign == null ? 0 : 1;
        }
        if (number == 0) {
            throw new ArithmeticException();
        }
        return sum / number;
    }

    float doubtShare(int scroll) {
        Sheet sheet = sheet(scroll);
        return (float) sheet.doubts() / (float) sheet.all().size();
    }

    int undo() {
        if (past.isEmpty()) {
            throw new IllegalStateException();
        }
        state = past.removeLast();
        return past.size();
    }

    int save() {
        saved = state.twin();
        return state.sheets.size();
    }

    int restore() {
        if (saved == null) {
            throw new IllegalStateException();
        }
        state = saved.twin();
        past.clear();
        return state.sheets.size();
    }
}
