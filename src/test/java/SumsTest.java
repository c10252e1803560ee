import java.util.NoSuchElementException;

/** Promises 10 to 18: sums, faults, doubts. */
public final class SumsTest {
    private static final Class<IndexOutOfBoundsException> NO_PLACE = IndexOutOfBoundsException.class;
    private static final Class<NoSuchElementException> NONE = NoSuchElementException.class;
    private static final int[] FAR = {Integer.MIN_VALUE, -536870912, -6, -1, 5, 6, 536870912, Integer.MAX_VALUE};

    private static final Checks checks = new Checks();

    public static void main(String[] args) {
        testToldSums();
        testFaults();
        testFaultsWithSmudges();
        testWrong();
        testWrongWithSmudges();
        testInDoubt();
        testDoubts();
        testNotSealed();
        testPlacesThatAreNotThere();
        checks.finish();
    }

    private static void testToldSums() {
        ScrollChecks x = Made.sealedWith("789", "111", "905", "000");
        int[] rows = {4, 3, 4, 0};
        int[] columns = {7, 9, 5};
        for (int row = 0; row < 4; row++) {
            checks.due("P10 row " + row, rows[row], x.rowSum(0, row));
        }
        for (int column = 0; column < 3; column++) {
            checks.due("P11 column " + column, columns[column], x.columnSum(0, column));
        }
        x.write(0, 0, 2, 0);
        checks.due("P10 told, not as it is now", 4, x.rowSum(0, 0));
        checks.due("P11 told, not as it is now", 5, x.columnSum(0, 2));
        x.smudge(0, 1, 1);
        checks.due("P10 with a smudge", 3, x.rowSum(0, 1));
        checks.due("P11 with a smudge", 9, x.columnSum(0, 1));
        x.write(0, 1, 1, 2);
        x.seal(0);
        checks.due("P10 anew", 5, x.rowSum(0, 0));
        checks.due("P11 anew", 0, x.columnSum(0, 1));
    }

    private static void testFaults() {
        ScrollChecks x = Made.sealedWith("45", "67");
        checks.due("P12 none", 0, x.rowFault(0, 0));
        checks.due("P13 none", 0, x.columnFault(0, 1));
        x.slip(0, 0, 1, 3);
        checks.due("P12 what is missing", 7, x.rowFault(0, 0));
        checks.due("P13 what is missing", 7, x.columnFault(0, 1));
        checks.due("P12 of another row", 0, x.rowFault(0, 1));
        checks.due("P13 of another column", 0, x.columnFault(0, 0));
        x.slip(0, 0, 0, 7);
        checks.due("P12 slips that cancel", 0, x.rowFault(0, 0));
        checks.due("P13 of the other column then", 3, x.columnFault(0, 0));
        x.seal(0);
        checks.due("P13 sealed anew", 0, x.columnFault(0, 0));
    }

    private static void testFaultsWithSmudges() {
        ScrollChecks x = Made.sealedWith("45", "67");
        x.smudge(0, 1, 0);
        checks.due("P12 a smudged one counts 0", 6, x.rowFault(0, 1));
        checks.due("P13 a smudged one counts 0", 6, x.columnFault(0, 0));
        x.smudge(0, 1, 1);
        checks.due("P12 two smudged ones", 3, x.rowFault(0, 1));
        checks.due("P13 the second of them", 7, x.columnFault(0, 1));
    }

    private static void testWrong() {
        ScrollChecks x = Made.sealedWith("123", "456", "789");
        checks.due("P14 none", 0, x.wrongRows(0));
        checks.due("P15 none", 0, x.wrongColumns(0));
        x.slip(0, 0, 0, 1);
        x.slip(0, 0, 1, 1);
        x.slip(0, 0, 2, 1);
        checks.due("P14 one row", 1, x.wrongRows(0));
        checks.due("P15 three columns", 3, x.wrongColumns(0));
        x.slip(0, 1, 2, 9);
        checks.due("P14 two rows", 2, x.wrongRows(0));
        checks.due("P15 two columns", 2, x.wrongColumns(0));
        x.slip(0, 2, 2, 1);
        checks.due("P14 three rows", 3, x.wrongRows(0));
        checks.due("P15 three columns again", 3, x.wrongColumns(0));
    }

    private static void testWrongWithSmudges() {
        ScrollChecks x = Made.sealedWith("123", "456");
        x.slip(0, 0, 0, 1);
        x.slip(0, 1, 2, 1);
        x.smudge(0, 0, 1);
        checks.due("P14 a row with a smudge is not wrong", 1, x.wrongRows(0));
        checks.due("P15 its other columns are", 2, x.wrongColumns(0));
        checks.due("P12 the fault stays", 1, x.rowFault(0, 0));
        x.smudge(0, 1, 2);
        checks.due("P14 no row", 0, x.wrongRows(0));
        checks.due("P15 one column", 1, x.wrongColumns(0));
    }

    private static void testInDoubt() {
        ScrollChecks x = Made.sealedWith("123", "456");
        checks.due("P16 nothing is", false, x.isInDoubt(0, 0, 0));
        x.slip(0, 0, 1, 2);
        checks.due("P16 row and column are wrong", true, x.isInDoubt(0, 0, 1));
        checks.due("P16 the row alone", false, x.isInDoubt(0, 0, 2));
        checks.due("P16 the column alone", false, x.isInDoubt(0, 1, 1));
        x.smudge(0, 1, 0);
        checks.due("P16 smudged", true, x.isInDoubt(0, 1, 0));
        checks.due("P16 beside it", false, x.isInDoubt(0, 1, 2));
        x.smudge(0, 0, 2);
        checks.due("P16 the row is wrong no more", false, x.isInDoubt(0, 0, 1));
        ScrollChecks unsealed = Made.with("1?", "34");
        checks.due("P16 not sealed, smudged", true, unsealed.isInDoubt(0, 0, 1));
        checks.due("P16 not sealed", false, unsealed.isInDoubt(0, 0, 0));
    }

    private static void testDoubts() {
        ScrollChecks x = Made.sealedWith("123", "456", "789");
        dueDoubts("none", 0, x);
        x.slip(0, 0, 0, 1);
        dueDoubts("one", 1, x);
        x.slip(0, 1, 1, 1);
        dueDoubts("two rows, two columns", 4, x);
        x.slip(0, 1, 2, 1);
        dueDoubts("two rows, three columns", 6, x);
        x.smudge(0, 2, 2);
        dueDoubts("a smudged one, two rows, two columns", 5, x);
        x.smudge(0, 2, 0);
        dueDoubts("two smudged ones, two rows, one column", 4, x);
        dueDoubts("not sealed", 3, Made.with("1??", "4?6"));
        dueDoubts("not sealed, none", 0, Made.with("123", "456"));
        dueDoubts("one cell", 1, Made.with("?"));
    }

    private static void dueDoubts(String what, int due, ScrollChecks x) {
        checks.due("P17 " + what, due, x.doubts(0));
        checks.due("P18 " + what, due, x.doubtsAgain(0));
    }

    private static void testNotSealed() {
        ScrollChecks x = Made.with("12", "34");
        checks.dueThrow("P10 not sealed", NONE, () -> x.rowSum(0, 0));
        checks.dueThrow("P11 not sealed", NONE, () -> x.columnSum(0, 0));
        checks.dueThrow("P12 not sealed", NONE, () -> x.rowFault(0, 0));
        checks.dueThrow("P13 not sealed", NONE, () -> x.columnFault(0, 0));
        checks.dueThrow("P14 not sealed", NONE, () -> x.wrongRows(0));
        checks.dueThrow("P15 not sealed", NONE, () -> x.wrongColumns(0));
        checks.dueThrow("P10 no row goes first", NO_PLACE, () -> x.rowSum(0, 2));
        checks.dueThrow("P11 no column goes first", NO_PLACE, () -> x.columnSum(0, 2));
        checks.dueThrow("P12 no row goes first", NO_PLACE, () -> x.rowFault(0, 2));
        checks.dueThrow("P13 no column goes first", NO_PLACE, () -> x.columnFault(0, 2));
        checks.dueThrow("P14 no scroll", NO_PLACE, () -> x.wrongRows(1));
        checks.dueThrow("P15 no scroll", NO_PLACE, () -> x.wrongColumns(1));
        checks.dueThrow("P32 none of it is refused", NONE, () -> x.refusal(false));
    }

    private static void testPlacesThatAreNotThere() {
        ScrollChecks x = Made.sealedWith("12345", "67890", "12345", "67890", "12345");
        checks.due("P10 the last row", 5, x.rowSum(0, 4));
        checks.due("P11 the last column", 5, x.columnSum(0, 4));
        for (int far : FAR) {
            String place = " of place " + far;
            checks.dueThrow("P14 wrongRows" + place, NO_PLACE, () -> x.wrongRows(far));
            checks.dueThrow("P15 wrongColumns" + place, NO_PLACE, () -> x.wrongColumns(far));
            checks.dueThrow("P17 doubts" + place, NO_PLACE, () -> x.doubts(far));
            checks.dueThrow("P18 doubtsAgain" + place, NO_PLACE, () -> x.doubtsAgain(far));
            int[][] lines = {{far, 0}, {0, far}};
            for (int[] line : lines) {
                checks.dueThrow("P10 rowSum" + place, NO_PLACE, () -> x.rowSum(line[0], line[1]));
                checks.dueThrow("P11 columnSum" + place, NO_PLACE, () -> x.columnSum(line[0], line[1]));
                checks.dueThrow("P12 rowFault" + place, NO_PLACE, () -> x.rowFault(line[0], line[1]));
                checks.dueThrow("P13 columnFault" + place, NO_PLACE, () -> x.columnFault(line[0], line[1]));
            }
            int[][] cells = {{far, 0, 0}, {0, far, 0}, {0, 0, far}};
            for (int[] cell : cells) {
                checks.dueThrow("P16 isInDoubt" + place, NO_PLACE, () -> x.isInDoubt(cell[0], cell[1], cell[2]));
            }
        }
    }
}
