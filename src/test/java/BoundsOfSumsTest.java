import java.util.NoSuchElementException;

/** Promises 10 to 18 at their bounds: sums, faults and doubts, just inside and just outside, empty and full. */
public final class BoundsOfSumsTest {
    private static final Class<IndexOutOfBoundsException> NO_PLACE = IndexOutOfBoundsException.class;
    private static final Class<NoSuchElementException> NONE = NoSuchElementException.class;

    private static final Checks checks = new Checks();
    private static final Unchanged unchanged = new Unchanged(checks, Made::used);

    public static void main(String[] args) {
        p10RowsAreFromTheFirstToTheLast();
        p11ColumnsAreFromTheFirstToTheLast();
        p10SumsWrapAround();
        p10ToldUntilItIsSealedAnew();
        p10NotSealed();
        p12FaultsAreFrom0To9();
        p12FaultsAreTakenAsItIsNow();
        p12ASmudgedCellCounts0();
        p12RowsAreFromTheFirstToTheLast();
        p13ColumnsAreFromTheFirstToTheLast();
        p12NotSealed();
        p14NoneAndAllAreWrong();
        p14AFaultOf0IsNotWrong();
        p14ASmudgedRowIsNotWrong();
        p14NotSealed();
        p16RowAndColumnBothWrong();
        p16ASmudgedCell();
        p16NotSealed();
        p16CellsAtTheEdges();
        p17NoneAndAllAreInDoubt();
        p17SmudgedAndCrossed();
        p17NotSealed();
        p17Scrolls();
        checks.finish();
    }

    /** The largest scroll, sealed, with a wrong sign in each row and in each column. */
    private static ScrollChecks allWrong() {
        ScrollChecks x = new ScrollChecks();
        x.scroll(6, 8);
        x.seal(0);
        for (int column = 0; column < 8; column++) {
            x.slip(0, Math.min(column, 5), column, 1);
        }
        return x;
    }

    private static ScrollChecks largest() {
        return Made.sealedWith("10000002", "20000003", "30000004", "40000005", "50000006", "60000007");
    }

    // Promises 10 and 11

    private static void p10RowsAreFromTheFirstToTheLast() {
        unchanged.dueNoRow("P10 rowSum", (x, scroll, row) -> x.rowSum(scroll, row));
        unchanged.dueAnswer("P10 the first row", 6, x -> x.rowSum(0, 0));
        unchanged.dueAnswer("P10 the last row", 5, x -> x.rowSum(0, 1));
        ScrollChecks x = largest();
        checks.due("P10 row 0", 3, x.rowSum(0, 0));
        checks.due("P10 row 5", 3, x.rowSum(0, 5));
        checks.dueThrow("P10 row 6", NO_PLACE, () -> x.rowSum(0, 6));
        checks.dueThrow("P10 row 7, as many as columns", NO_PLACE, () -> x.rowSum(0, 7));
    }

    private static void p11ColumnsAreFromTheFirstToTheLast() {
        unchanged.dueNoColumn("P11 columnSum", (x, scroll, column) -> x.columnSum(scroll, column));
        unchanged.dueAnswer("P11 the first column", 5, x -> x.columnSum(0, 0));
        unchanged.dueAnswer("P11 the last column", 9, x -> x.columnSum(0, 2));
        ScrollChecks x = largest();
        checks.due("P11 column 0", 1, x.columnSum(0, 0));
        checks.due("P11 column 7", 7, x.columnSum(0, 7));
        checks.dueThrow("P11 column 8", NO_PLACE, () -> x.columnSum(0, 8));
        ScrollChecks high = Made.sealedWith("1", "2", "3");
        checks.due("P11 the only column", 6, high.columnSum(0, 0));
        checks.dueThrow("P11 column 1, as many as rows", NO_PLACE, () -> high.columnSum(0, 1));
    }

    private static void p10SumsWrapAround() {
        ScrollChecks x = Made.sealedWith("0000", "4500", "4600", "4700", "9999", "9092");
        int[] rows = {0, 9, 0, 1, 6, 0};
        int[] columns = {0, 7, 8, 1};
        for (int row = 0; row < 6; row++) {
            checks.due("P10 row " + row, rows[row], x.rowSum(0, row));
        }
        for (int column = 0; column < 4; column++) {
            checks.due("P11 column " + column, columns[column], x.columnSum(0, column));
        }
        ScrollChecks nines = Made.sealedWith("99999999", "99999999", "99999999", "99999999", "99999999", "99999999");
        checks.due("P10 72", 2, nines.rowSum(0, 5));
        checks.due("P11 54", 4, nines.columnSum(0, 7));
    }

    private static void p10ToldUntilItIsSealedAnew() {
        ScrollChecks x = Made.sealedWith("12", "34");
        x.slip(0, 1, 1, 9);
        x.smudge(0, 0, 0);
        x.fill(0);
        x.smudge(0, 0, 0);
        checks.due("P10 told", "3 7", x.rowSum(0, 0) + " " + x.rowSum(0, 1));
        checks.due("P11 told", "4 6", x.columnSum(0, 0) + " " + x.columnSum(0, 1));
        x.write(0, 0, 0, 0);
        checks.due("P10 told still", 3, x.rowSum(0, 0));
        x.seal(0);
        checks.due("P10 anew", "2 6", x.rowSum(0, 0) + " " + x.rowSum(0, 1));
        checks.due("P11 anew", "3 5", x.columnSum(0, 0) + " " + x.columnSum(0, 1));
    }

    private static void p10NotSealed() {
        unchanged.dueThrow("P10 not sealed", NONE, x -> x.rowSum(2, 0));
        unchanged.dueThrow("P11 not sealed", NONE, x -> x.columnSum(2, 1));
        unchanged.dueThrow("P10 no row goes ahead of not sealed", NO_PLACE, x -> x.rowSum(2, 1));
        unchanged.dueThrow("P10 no row goes ahead of it too", NO_PLACE, x -> x.rowSum(2, -1));
        unchanged.dueThrow("P11 no column goes ahead of not sealed", NO_PLACE, x -> x.columnSum(2, 2));
        unchanged.dueThrow("P11 no column goes ahead of it too", NO_PLACE, x -> x.columnSum(2, -1));
    }

    // Promises 12 and 13

    private static void p12FaultsAreFrom0To9() {
        for (int told = 0; told <= 9; told++) {
            for (int now = 0; now <= 9; now++) {
                ScrollChecks x = Made.with("0");
                x.write(0, 0, 0, told);
                x.seal(0);
                x.write(0, 0, 0, now);
                int due = told >= now ? told - now : told - now + 10;
                checks.due("P12 told " + told + " now " + now, due, x.rowFault(0, 0));
                checks.due("P13 told " + told + " now " + now, due, x.columnFault(0, 0));
            }
        }
    }

    private static void p12FaultsAreTakenAsItIsNow() {
        unchanged.dueAnswer("P12 of the wrong row", 6, x -> x.rowFault(0, 1));
        unchanged.dueAnswer("P13 of the wrong column", 6, x -> x.columnFault(0, 1));
        ScrollChecks x = Made.sealedWith("12", "34");
        x.slip(0, 0, 0, 1);
        x.slip(0, 0, 1, 1);
        checks.due("P12 two slips in a row", 8, x.rowFault(0, 0));
        checks.due("P13 one in a column", 9, x.columnFault(0, 0));
        x.seal(0);
        checks.due("P12 sealed anew", 0, x.rowFault(0, 0));
        checks.due("P13 sealed anew", 0, x.columnFault(0, 0));
    }

    private static void p12ASmudgedCellCounts0() {
        unchanged.dueAnswer("P12 a smudged one", 1, x -> x.rowFault(1, 0));
        unchanged.dueAnswer("P13 a smudged one", 6, x -> x.columnFault(1, 2));
        ScrollChecks x = Made.sealedWith("45", "67");
        Made.put(x, 0, "??", "??");
        checks.due("P12 all smudged: the told sum", 9, x.rowFault(0, 0));
        checks.due("P12 all smudged, the other row", 3, x.rowFault(0, 1));
        checks.due("P13 all smudged: the told sum", 0, x.columnFault(0, 0));
        checks.due("P13 all smudged, the other column", 2, x.columnFault(0, 1));
    }

    private static void p12RowsAreFromTheFirstToTheLast() {
        unchanged.dueNoRow("P12 rowFault", (x, scroll, row) -> x.rowFault(scroll, row));
        ScrollChecks x = largest();
        x.slip(0, 0, 0, 1);
        x.slip(0, 5, 7, 2);
        checks.due("P12 row 0", 9, x.rowFault(0, 0));
        checks.due("P12 row 1", 0, x.rowFault(0, 1));
        checks.due("P12 row 5", 8, x.rowFault(0, 5));
        checks.dueThrow("P12 row 6", NO_PLACE, () -> x.rowFault(0, 6));
    }

    private static void p13ColumnsAreFromTheFirstToTheLast() {
        unchanged.dueNoColumn("P13 columnFault", (x, scroll, column) -> x.columnFault(scroll, column));
        ScrollChecks x = largest();
        x.slip(0, 0, 0, 1);
        x.slip(0, 5, 7, 2);
        checks.due("P13 column 0", 9, x.columnFault(0, 0));
        checks.due("P13 column 6", 0, x.columnFault(0, 6));
        checks.due("P13 column 7", 8, x.columnFault(0, 7));
        checks.dueThrow("P13 column 8", NO_PLACE, () -> x.columnFault(0, 8));
    }

    private static void p12NotSealed() {
        unchanged.dueThrow("P12 not sealed", NONE, x -> x.rowFault(2, 0));
        unchanged.dueThrow("P13 not sealed", NONE, x -> x.columnFault(2, 1));
        unchanged.dueThrow("P12 no row goes ahead of not sealed", NO_PLACE, x -> x.rowFault(2, 1));
        unchanged.dueThrow("P12 no row goes ahead of it too", NO_PLACE, x -> x.rowFault(2, -1));
        unchanged.dueThrow("P13 no column goes ahead of not sealed", NO_PLACE, x -> x.columnFault(2, 2));
        unchanged.dueThrow("P13 no column goes ahead of it too", NO_PLACE, x -> x.columnFault(2, -1));
    }

    // Promises 14 and 15

    private static void p14NoneAndAllAreWrong() {
        unchanged.dueAnswer("P14 one", 1, x -> x.wrongRows(0));
        unchanged.dueAnswer("P15 one", 1, x -> x.wrongColumns(0));
        checks.due("P14 none", 0, largest().wrongRows(0));
        checks.due("P15 none", 0, largest().wrongColumns(0));
        checks.due("P14 all", 6, allWrong().wrongRows(0));
        checks.due("P15 all", 8, allWrong().wrongColumns(0));
        ScrollChecks last = largest();
        last.slip(0, 5, 7, 1);
        checks.due("P14 the last row", 1, last.wrongRows(0));
        checks.due("P15 the last column", 1, last.wrongColumns(0));
        last.slip(0, 5, 7, 9);
        checks.due("P14 the last row no more", 0, last.wrongRows(0));
        checks.due("P15 the last column no more", 0, last.wrongColumns(0));
    }

    private static void p14AFaultOf0IsNotWrong() {
        for (int by = 1; by <= 9; by++) {
            ScrollChecks x = Made.sealedWith("00", "00");
            x.slip(0, 0, 0, by);
            checks.due("P14 slipped by " + by, 1, x.wrongRows(0));
            checks.due("P15 slipped by " + by, 1, x.wrongColumns(0));
            x.slip(0, 0, 1, 10 - by);
            checks.due("P14 a sum that is 10 more", 0, x.wrongRows(0));
            checks.due("P15 two columns", 2, x.wrongColumns(0));
            x.slip(0, 1, 1, by);
            checks.due("P14 the other row", 1, x.wrongRows(0));
            checks.due("P15 a sum that is 10 more", 1, x.wrongColumns(0));
        }
    }

    private static void p14ASmudgedRowIsNotWrong() {
        ScrollChecks x = allWrong();
        x.smudge(0, 0, 7);
        checks.due("P14 one row less", 5, x.wrongRows(0));
        checks.due("P15 one column less", 7, x.wrongColumns(0));
        x.smudge(0, 0, 6);
        checks.due("P14 no row less", 5, x.wrongRows(0));
        checks.due("P15 another column less", 6, x.wrongColumns(0));
        x.write(0, 0, 6, 1);
        x.write(0, 0, 7, 0);
        checks.due("P14 smudged no more", 6, x.wrongRows(0));
        checks.due("P15 smudged no more", 8, x.wrongColumns(0));
        ScrollChecks one = Made.sealedWith("5");
        one.smudge(0, 0, 0);
        checks.due("P14 the only row is smudged", 0, one.wrongRows(0));
        checks.due("P15 the only column is smudged", 0, one.wrongColumns(0));
    }

    private static void p14NotSealed() {
        unchanged.dueThrow("P14 not sealed", NONE, x -> x.wrongRows(2));
        unchanged.dueThrow("P15 not sealed", NONE, x -> x.wrongColumns(2));
        unchanged.dueNoScroll("P14 wrongRows", (x, scroll) -> x.wrongRows(scroll));
        unchanged.dueNoScroll("P15 wrongColumns", (x, scroll) -> x.wrongColumns(scroll));
    }

    // Promise 16

    private static void p16RowAndColumnBothWrong() {
        unchanged.dueAnswer("P16 both", true, x -> x.isInDoubt(0, 1, 1));
        unchanged.dueAnswer("P16 the row alone", false, x -> x.isInDoubt(0, 1, 2));
        unchanged.dueAnswer("P16 the column alone", false, x -> x.isInDoubt(0, 0, 1));
        unchanged.dueAnswer("P16 neither", false, x -> x.isInDoubt(0, 0, 0));
        ScrollChecks x = Made.sealedWith("12", "34");
        x.slip(0, 0, 0, 1);
        x.slip(0, 1, 1, 1);
        checks.due("P16 a right sign whose row and column are wrong", true, x.isInDoubt(0, 0, 1));
        x.slip(0, 0, 1, 9);
        checks.due("P16 a wrong sign whose row is not wrong", false, x.isInDoubt(0, 0, 1));
    }

    private static void p16ASmudgedCell() {
        unchanged.dueAnswer("P16 smudged", true, x -> x.isInDoubt(1, 0, 0));
        unchanged.dueAnswer("P16 in its row", false, x -> x.isInDoubt(1, 0, 1));
        ScrollChecks x = Made.sealedWith("12", "34");
        x.slip(0, 0, 0, 1);
        x.smudge(0, 0, 1);
        checks.due("P16 its row is wrong no more", false, x.isInDoubt(0, 0, 0));
        x.undo();
        x.smudge(0, 1, 0);
        checks.due("P16 its column is wrong no more", false, x.isInDoubt(0, 0, 0));
    }

    private static void p16NotSealed() {
        ScrollChecks x = Made.with("1?", "34");
        checks.due("P16 smudged", true, x.isInDoubt(0, 0, 1));
        checks.due("P16 not smudged", false, x.isInDoubt(0, 0, 0));
        checks.due("P16 the last cell", false, x.isInDoubt(0, 1, 1));
    }

    private static void p16CellsAtTheEdges() {
        unchanged.dueNoCell("P16 isInDoubt", (x, scroll, row, column) -> x.isInDoubt(scroll, row, column));
        ScrollChecks x = allWrong();
        checks.due("P16 the first cell", true, x.isInDoubt(0, 0, 0));
        checks.due("P16 the last cell", true, x.isInDoubt(0, 5, 7));
        checks.dueThrow("P16 row 6", NO_PLACE, () -> x.isInDoubt(0, 6, 0));
        checks.dueThrow("P16 column 8", NO_PLACE, () -> x.isInDoubt(0, 0, 8));
    }

    // Promises 17 and 18

    private static void dueDoubts(String what, int due, ScrollChecks x) {
        checks.due("P17 " + what, due, x.doubts(0));
        checks.due("P18 " + what, due, x.doubtsAgain(0));
    }

    private static void p17NoneAndAllAreInDoubt() {
        dueDoubts("none", 0, largest());
        dueDoubts("all are crossed", 48, allWrong());
        ScrollChecks smudged = largest();
        for (int cell = 0; cell < 48; cell++) {
            smudged.smudge(0, cell / 8, cell % 8);
        }
        dueDoubts("all are smudged", 48, smudged);
        ScrollChecks one = Made.sealedWith("5");
        dueDoubts("the only cell is not", 0, one);
        one.slip(0, 0, 0, 1);
        dueDoubts("the only cell is wrong", 1, one);
        one.smudge(0, 0, 0);
        dueDoubts("the only cell is smudged", 1, one);
    }

    private static void p17SmudgedAndCrossed() {
        unchanged.dueAnswer("P17 one crossed", 1, x -> x.doubts(0));
        unchanged.dueAnswer("P18 one crossed", 1, x -> x.doubtsAgain(0));
        unchanged.dueAnswer("P17 two smudged", 2, x -> x.doubts(1));
        unchanged.dueAnswer("P18 two smudged", 2, x -> x.doubtsAgain(1));
        ScrollChecks x = allWrong();
        x.smudge(0, 0, 0);
        dueDoubts("one smudged, five rows and seven columns", 36, x);
        x.smudge(0, 5, 7);
        dueDoubts("two smudged, four rows and six columns", 26, x);
        ScrollChecks rows = Made.sealedWith("00", "00");
        Made.put(rows, 0, "10", "90");
        dueDoubts("two rows and no column", 0, rows);
        Made.put(rows, 0, "19", "00");
        dueDoubts("no row and two columns", 0, rows);
    }

    private static void p17NotSealed() {
        dueDoubts("not sealed, none smudged", 0, Made.with("12", "34"));
        dueDoubts("not sealed, one smudged", 1, Made.with("12", "3?"));
        dueDoubts("not sealed, all smudged", 4, Made.with("??", "??"));
    }

    private static void p17Scrolls() {
        unchanged.dueNoScroll("P17 doubts", (x, scroll) -> x.doubts(scroll));
        unchanged.dueNoScroll("P18 doubtsAgain", (x, scroll) -> x.doubtsAgain(scroll));
    }
}
