import java.util.NoSuchElementException;

/** Promises 1 to 9 at their bounds: just inside and just outside, empty and full, refused calls change nothing. */
public final class BoundsOfScrollsTest {
    private static final Class<IndexOutOfBoundsException> NO_PLACE = IndexOutOfBoundsException.class;
    private static final Class<IllegalArgumentException> BAD = IllegalArgumentException.class;
    private static final Class<IllegalStateException> NO_STATE = IllegalStateException.class;
    private static final Class<NoSuchElementException> NONE = NoSuchElementException.class;

    private static final Checks checks = new Checks();
    private static final Unchanged unchanged = new Unchanged(checks, Made::used);
    private static final Unchanged unchangedWhenFull = new Unchanged(checks, Made::usedAndFull);

    public static void main(String[] args) {
        p1HasNoScrolls();
        p1HasNothingElse();
        p1ObjectsStandForThemselves();
        p1TheLastOf512CallsAnswers();
        p2RowsAreFrom1To6();
        p2ColumnsAreFrom1To8();
        p2RowsAndColumnsAreNotMixedUp();
        p2NumbersAreFrom0To4();
        p2ASixthIsRefused();
        p2IsNotSealedAndHasSigns0();
        p3WhatIsFrom0To6();
        p3ScrollsAreFrom0();
        p3NumbersAtTheirBounds();
        p3SoFarIsUndoneAndStaysBehindWrite();
        p4CellsAtTheEdges();
        p4SignsAreFrom0To9();
        p4TellsASmudgedCell();
        p4ToldSumsStay();
        p5CellsAtTheEdges();
        p5TellsASmudgedCell();
        p6SumsAtTheirBounds();
        p6OneSmudgedCellRefuses();
        p6IsSealedAnew();
        p7TheFifthAndTheSixth();
        p7HasTheSame();
        p7BeginsWithoutMendedAndFilledIn();
        p7ACopyOfACopyTellsTheCopy();
        p8NumbersAreFrom1To9();
        p8WrapsAround();
        p8ASmudgedCellRefuses();
        p8CellsAtTheEdges();
        p9FromTheFirstToTheLastCell();
        p9ASmudgedCellRefuses();
        checks.finish();
    }

    private static ScrollChecks largest() {
        ScrollChecks x = new ScrollChecks();
        x.scroll(6, 8);
        return x;
    }

    // Promise 1

    private static void p1HasNoScrolls() {
        ScrollChecks x = new ScrollChecks();
        for (int what = 0; what <= 11; what++) {
            checks.due("P1 account " + what, 0, x.account(what));
        }
        checks.dueThrow("P1 scrollOf", NO_PLACE, () -> x.scrollOf(0, 0));
        checks.dueThrow("P1 write", NO_PLACE, () -> x.write(0, 0, 0, 0));
        checks.dueThrow("P1 signAt", NO_PLACE, () -> x.signAt(0, 0, 0));
        checks.dueThrow("P1 seal", NO_PLACE, () -> x.seal(0));
        checks.dueThrow("P1 copy", NO_PLACE, () -> x.copy(0));
        checks.dueThrow("P1 slip", NO_PLACE, () -> x.slip(0, 0, 0, 1));
        checks.dueThrow("P1 smudge", NO_PLACE, () -> x.smudge(0, 0, 0));
        checks.dueThrow("P1 rowSum", NO_PLACE, () -> x.rowSum(0, 0));
        checks.dueThrow("P1 columnSum", NO_PLACE, () -> x.columnSum(0, 0));
        checks.dueThrow("P1 rowFault", NO_PLACE, () -> x.rowFault(0, 0));
        checks.dueThrow("P1 columnFault", NO_PLACE, () -> x.columnFault(0, 0));
        checks.dueThrow("P1 wrongRows", NO_PLACE, () -> x.wrongRows(0));
        checks.dueThrow("P1 wrongColumns", NO_PLACE, () -> x.wrongColumns(0));
        checks.dueThrow("P1 isInDoubt", NO_PLACE, () -> x.isInDoubt(0, 0, 0));
        checks.dueThrow("P1 doubts", NO_PLACE, () -> x.doubts(0));
        checks.dueThrow("P1 doubtsAgain", NO_PLACE, () -> x.doubtsAgain(0));
        checks.dueThrow("P1 mend", NO_PLACE, () -> x.mend(0));
        checks.dueThrow("P1 wouldMend", NO_PLACE, () -> x.wouldMend(0));
        checks.dueThrow("P1 mendAgain", NO_PLACE, () -> x.mendAgain(0));
        checks.dueThrow("P1 fill", NO_PLACE, () -> x.fill(0));
        checks.dueThrow("P1 wouldFill", NO_PLACE, () -> x.wouldFill(0, 0, 0));
        checks.dueThrow("P1 differ", NO_PLACE, () -> x.differ(0, 0));
        checks.dueThrow("P1 ranked", NONE, () -> x.ranked(0));
        checks.dueThrow("P1 count", NO_PLACE, () -> x.count(0, 0));
        checks.dueThrow("P1 line", NO_PLACE, () -> x.line(0, 0));
        checks.dueThrow("P1 meanSign", NO_PLACE, () -> x.meanSign(0));
        checks.dueThrow("P1 doubtShare", NO_PLACE, () -> x.doubtShare(0));
    }

    private static void p1HasNothingElse() {
        ScrollChecks x = new ScrollChecks();
        checks.dueThrow("P1 an empty line", NO_PLACE, () -> x.character(0));
        checks.due("P1 no error", -1, x.errorPosition());
        checks.dueThrow("P1 no reason", NONE, () -> x.refusal(false));
        checks.dueThrow("P1 no detail", NONE, () -> x.refusal(true));
        checks.due("P1 all is well", true, x.isWell());
        checks.dueThrow("P1 no change", NO_STATE, x::undo);
        checks.dueThrow("P1 no snapshot", NO_STATE, x::restore);
        checks.due("P1 an empty input", 1, x.append('s'));
    }

    private static void p1ObjectsStandForThemselves() {
        ScrollChecks first = Made.used();
        ScrollChecks second = new ScrollChecks();
        checks.due("P1 another object has no scrolls", 0, second.account(0));
        second.scroll(1, 1);
        checks.due("P1 the first has its own", 3, first.account(0));
    }

    private static void p1TheLastOf512CallsAnswers() {
        ScrollChecks x = new ScrollChecks();
        x.scroll(1, 1);
        for (int call = 2; call <= 511; call++) {
            x.slip(0, 0, 0, 1);
        }
        checks.due("P1 call 512", 510, x.account(6));
    }

    // Promise 2

    private static void p2RowsAreFrom1To6() {
        for (int rows = 1; rows <= 6; rows++) {
            ScrollChecks x = new ScrollChecks();
            checks.due("P2 rows " + rows, 0, x.scroll(rows, 1));
            checks.due("P2 has rows " + rows, rows, x.scrollOf(0, 0));
            checks.due("P2 has one column", 1, x.scrollOf(0, 1));
        }
        for (int rows : new int[] {0, 7, 8, -1, Integer.MIN_VALUE, Integer.MAX_VALUE}) {
            unchanged.dueThrow("P2 rows " + rows, BAD, x -> x.scroll(rows, 1));
            unchanged.dueThrow("P2 rows " + rows + " of 8", BAD, x -> x.scroll(rows, 8));
        }
    }

    private static void p2ColumnsAreFrom1To8() {
        for (int columns = 1; columns <= 8; columns++) {
            ScrollChecks x = new ScrollChecks();
            checks.due("P2 columns " + columns, 0, x.scroll(1, columns));
            checks.due("P2 has columns " + columns, columns, x.scrollOf(0, 1));
            checks.due("P2 has one row", 1, x.scrollOf(0, 0));
        }
        for (int columns : new int[] {0, 9, 10, -1, Integer.MIN_VALUE, Integer.MAX_VALUE}) {
            unchanged.dueThrow("P2 columns " + columns, BAD, x -> x.scroll(1, columns));
            unchanged.dueThrow("P2 columns " + columns + " of 6", BAD, x -> x.scroll(6, columns));
        }
    }

    private static void p2RowsAndColumnsAreNotMixedUp() {
        checks.due("P2 the largest", 48, largest().account(3));
        unchanged.dueThrow("P2 the largest turned", BAD, x -> x.scroll(8, 6));
        unchanged.dueThrow("P2 both too small", BAD, x -> x.scroll(0, 0));
        unchanged.dueThrow("P2 both too large", BAD, x -> x.scroll(7, 9));
    }

    private static void p2NumbersAreFrom0To4() {
        ScrollChecks x = new ScrollChecks();
        for (int number = 0; number <= 4; number++) {
            checks.due("P2 number", number, x.scroll(6, 8));
            checks.due("P2 are kept", number + 1, x.account(0));
        }
        x.undo();
        checks.due("P2 the last number again when there are 4", 4, x.scroll(1, 1));
    }

    private static void p2ASixthIsRefused() {
        unchangedWhenFull.dueRefusal("P2 a sixth", 1, 5, x -> x.scroll(1, 1));
        unchangedWhenFull.dueRefusal("P2 a sixth, the largest", 1, 5, x -> x.scroll(6, 8));
        for (int bad : new int[] {0, 9}) {
            unchangedWhenFull.dueThrow("P2 rows out of range go first", BAD, x -> x.scroll(bad, 1));
            unchangedWhenFull.dueThrow("P2 columns out of range go first", BAD, x -> x.scroll(1, bad));
        }
    }

    /** Whatever was there before: nothing of a scroll that was restored away or undone may be left. */
    private static void p2IsNotSealedAndHasSigns0() {
        dueNew("of a new object", new ScrollChecks());
        ScrollChecks restored = new ScrollChecks();
        restored.save();
        restored.scroll(6, 8);
        restored.seal(0);
        restored.slip(0, 0, 0, 9);
        restored.mend(0);
        restored.smudge(0, 0, 0);
        restored.fill(0);
        restored.slip(0, 5, 6, 9);
        restored.smudge(0, 5, 7);
        restored.restore();
        dueNew("where one was restored away", restored);
        ScrollChecks undone = Made.sealedWith("99999999", "99999999", "99999999", "99999999", "99999999", "99999999");
        undone.smudge(0, 5, 7);
        undone.copy(0);
        undone.undo();
        dueNew("where a copy was undone", undone);
        ScrollChecks read = Made.sealedWith("00", "00");
        Made.read(read, "c0;e1:0,1+1;m1;x1:0,0;f1;x1:1,1");
        read.undo();
        dueNew("where a text was undone", read);
    }

    private static void dueNew(String what, ScrollChecks x) {
        int number = x.scroll(6, 8);
        int[] due = {6, 8, 0, -1, 0, 0, 0};
        for (int asked = 0; asked <= 6; asked++) {
            checks.due("P2 number " + asked + " " + what, due[asked], x.scrollOf(number, asked));
        }
        checks.due("P2 signs " + what, 48, x.count(number, 0));
        checks.dueThrow("P2 not sealed " + what, NONE, () -> x.rowSum(number, 0));
        checks.due("P2 nothing is in doubt " + what, 0, x.doubtsAgain(number));
        checks.due("P6 sums " + what, 0, x.seal(number));
        checks.due("P14 no row is wrong " + what, 0, x.wrongRows(number));
        checks.due("P15 no column is wrong " + what, 0, x.wrongColumns(number));
    }

    // Promise 3

    private static void p3WhatIsFrom0To6() {
        int[] due = {2, 3, 1, 0, 2, 0, 1};
        for (int what = 0; what <= 6; what++) {
            int asked = what;
            unchanged.dueAnswer("P3 what " + what, due[what], x -> x.scrollOf(1, asked));
        }
        for (int what : new int[] {-1, 7, Integer.MIN_VALUE, Integer.MAX_VALUE}) {
            unchanged.dueThrow("P3 what " + what, BAD, x -> x.scrollOf(1, what));
            unchanged.dueThrow("P3 no scroll goes ahead of what " + what, NO_PLACE, x -> x.scrollOf(3, what));
        }
    }

    private static void p3ScrollsAreFrom0() {
        unchanged.dueNoScroll("P3 scrollOf", (x, scroll) -> x.scrollOf(scroll, 0));
        ScrollChecks x = new ScrollChecks();
        for (int number = 0; number <= 4; number++) {
            int next = number;
            checks.dueThrow("P3 not begun " + number, NO_PLACE, () -> x.scrollOf(next, 0));
            x.scroll(1 + number, 1);
            checks.due("P3 begun " + number, 1 + number, x.scrollOf(number, 0));
        }
        x.undo();
        checks.dueThrow("P3 one that was undone", NO_PLACE, () -> x.scrollOf(4, 0));
    }

    private static void p3NumbersAtTheirBounds() {
        ScrollChecks x = largest();
        int[] first = {6, 8, 0, -1, 0, 0, 0};
        for (int what = 0; what <= 6; what++) {
            checks.due("P3 at first " + what, first[what], x.scrollOf(0, what));
        }
        x.seal(0);
        for (int cell = 0; cell < 48; cell++) {
            x.smudge(0, cell / 8, cell % 8);
        }
        checks.due("P3 all are smudged", 48, x.scrollOf(0, 4));
        x.copy(0);
        x.copy(0);
        x.copy(0);
        x.copy(3);
        checks.due("P3 a copy of the first", 0, x.scrollOf(3, 3));
        checks.due("P3 a copy of the last but one", 3, x.scrollOf(4, 3));
    }

    private static void p3SoFarIsUndoneAndStaysBehindWrite() {
        ScrollChecks x = Made.sealedWith("12", "34");
        x.slip(0, 0, 0, 1);
        x.mend(0);
        x.smudge(0, 1, 1);
        x.fill(0);
        x.write(0, 1, 1, 9);
        x.write(0, 0, 0, 9);
        checks.due("P3 mended so far, also if it is written then", 1, x.scrollOf(0, 5));
        checks.due("P3 filled in so far, also if it is written then", 1, x.scrollOf(0, 6));
        x.undo();
        x.undo();
        x.undo();
        checks.due("P3 filled in, undone", 0, x.scrollOf(0, 6));
        x.undo();
        x.undo();
        checks.due("P3 mended, undone", 0, x.scrollOf(0, 5));
    }

    // Promise 4

    private static void p4CellsAtTheEdges() {
        unchanged.dueNoCell("P4 write", (x, scroll, row, column) -> x.write(scroll, row, column, 1));
        int[][] corners = {{0, 0}, {0, 7}, {5, 0}, {5, 7}};
        for (int[] corner : corners) {
            ScrollChecks x = largest();
            checks.due("P4 a corner before", 0, x.write(0, corner[0], corner[1], 9));
            checks.due("P4 a corner then", 9, x.signAt(0, corner[0], corner[1]));
            checks.due("P4 no other cell", 47, x.count(0, 0));
            checks.dueThrow("P4 behind the last row", NO_PLACE, () -> x.write(0, 6, corner[1], 1));
            checks.dueThrow("P4 behind the last column", NO_PLACE, () -> x.write(0, corner[0], 8, 1));
            checks.dueThrow("P4 ahead of the first row", NO_PLACE, () -> x.write(0, -1, corner[1], 1));
            checks.dueThrow("P4 ahead of the first column", NO_PLACE, () -> x.write(0, corner[0], -1, 1));
        }
    }

    private static void p4SignsAreFrom0To9() {
        for (int sign = 0; sign <= 9; sign++) {
            ScrollChecks x = Made.with("5");
            checks.due("P4 before", 5, x.write(0, 0, 0, sign));
            checks.due("P4 sign " + sign, sign, x.signAt(0, 0, 0));
        }
        for (int sign : new int[] {-1, 10, Integer.MIN_VALUE, Integer.MAX_VALUE}) {
            unchanged.dueThrow("P4 sign " + sign, BAD, x -> x.write(0, 0, 0, sign));
            unchanged.dueThrow("P4 sign " + sign + " in a smudged cell", BAD, x -> x.write(1, 0, 0, sign));
            unchanged.dueThrow("P4 no scroll goes first", NO_PLACE, x -> x.write(3, 0, 0, sign));
            unchanged.dueThrow("P4 no row goes first", NO_PLACE, x -> x.write(0, 2, 0, sign));
            unchanged.dueThrow("P4 no column goes first", NO_PLACE, x -> x.write(0, 0, 3, sign));
        }
    }

    private static void p4TellsASmudgedCell() {
        for (int sign = 0; sign <= 9; sign += 9) {
            ScrollChecks x = Made.used();
            checks.due("P4 it was smudged", -1, x.write(1, 1, 2, sign));
            checks.due("P4 it is not smudged then", sign, x.signAt(1, 1, 2));
            checks.due("P4 the other is still", 1, x.scrollOf(1, 4));
            checks.due("P4 it is not filled in", 1, x.scrollOf(1, 6));
            checks.due("P4 it was not smudged", sign, x.write(1, 1, 2, 3));
        }
    }

    private static void p4ToldSumsStay() {
        ScrollChecks x = Made.sealedWith("12", "34");
        x.write(0, 1, 1, 9);
        checks.due("P4 sealed still", 1, x.scrollOf(0, 2));
        checks.due("P4 told sum of the row", 7, x.rowSum(0, 1));
        checks.due("P4 told sum of the column", 6, x.columnSum(0, 1));
    }

    // Promise 5

    private static void p5CellsAtTheEdges() {
        unchanged.dueNoCell("P5 signAt", (x, scroll, row, column) -> x.signAt(scroll, row, column));
        unchanged.dueAnswer("P5 the last cell", 6, x -> x.signAt(0, 1, 2));
        ScrollChecks x = Made.with("10000002", "00000000", "00000000", "00000000", "00000000", "30000004");
        checks.due("P5 the first row and column", 1, x.signAt(0, 0, 0));
        checks.due("P5 the last column", 2, x.signAt(0, 0, 7));
        checks.due("P5 the last row", 3, x.signAt(0, 5, 0));
        checks.due("P5 the last row and column", 4, x.signAt(0, 5, 7));
        checks.dueThrow("P5 row 6", NO_PLACE, () -> x.signAt(0, 6, 0));
        checks.dueThrow("P5 column 8", NO_PLACE, () -> x.signAt(0, 0, 8));
    }

    private static void p5TellsASmudgedCell() {
        unchanged.dueAnswer("P5 smudged", -1, x -> x.signAt(1, 1, 2));
        unchanged.dueAnswer("P5 beside it", 5, x -> x.signAt(1, 1, 1));
    }

    // Promise 6

    private static void p6SumsAtTheirBounds() {
        checks.due("P6 all signs 0", 0, largest().seal(0));
        checks.due("P6 a sum of 9", 9, Made.with("45").seal(0));
        checks.due("P6 a sum of 10", 0, Made.with("46").seal(0));
        checks.due("P6 a sum of 11", 1, Made.with("56").seal(0));
        String[] nines = {"00000009", "90000000", "33300000", "00000333", "11111112", "81000000"};
        checks.due("P6 the most", 54, Made.with(nines).seal(0));
        unchanged.dueNoScroll("P6 seal", (x, scroll) -> x.seal(scroll));
    }

    private static void p6OneSmudgedCellRefuses() {
        unchanged.dueRefusal("P6 two smudged cells of a sealed scroll", 2, 2, x -> x.seal(1));
        new Unchanged(checks, () -> Made.with("12", "3?")).dueRefusal("P6 one smudged cell", 2, 1, x -> x.seal(0));
        ScrollChecks x = largest();
        for (int cell = 0; cell < 48; cell++) {
            x.smudge(0, cell / 8, cell % 8);
        }
        checks.dueRefusal("P6 all are smudged", 2, 48, x, () -> x.seal(0));
        checks.due("P6 not sealed", 0, x.scrollOf(0, 2));
    }

    private static void p6IsSealedAnew() {
        ScrollChecks x = Made.sealedWith("12", "34");
        x.slip(0, 0, 0, 1);
        checks.due("P6 told until then", 3, x.rowSum(0, 0));
        checks.due("P6 anew", 4 + 7, x.seal(0));
        checks.due("P6 told from then on", 4, x.rowSum(0, 0));
        checks.due("P6 of the column too", 5, x.columnSum(0, 0));
        checks.due("P6 sealed", 1, x.scrollOf(0, 2));
        int changes = x.account(11);
        x.undo();
        checks.due("P6 anew is a change", changes - 1, x.account(11));
        checks.due("P6 anew, undone", 3, x.rowSum(0, 0));
        x.undo();
        x.undo();
        checks.due("P6 undone", 0, x.scrollOf(0, 2));
    }

    // Promise 7

    private static void p7TheFifthAndTheSixth() {
        ScrollChecks x = Made.with("1");
        for (int number = 1; number <= 4; number++) {
            checks.due("P7 number", number, x.copy(0));
        }
        checks.dueRefusal("P7 a sixth", 1, 5, x, () -> x.copy(4));
        unchangedWhenFull.dueRefusal("P7 a sixth of the first", 1, 5, y -> y.copy(0));
        unchangedWhenFull.dueRefusal("P7 a sixth of the last", 1, 5, y -> y.copy(4));
        unchangedWhenFull.dueThrow("P7 no scroll goes first", NO_PLACE, y -> y.copy(5));
        unchangedWhenFull.dueThrow("P7 no scroll goes first too", NO_PLACE, y -> y.copy(-1));
        unchanged.dueNoScroll("P7 copy", (y, scroll) -> y.copy(scroll));
    }

    private static void p7HasTheSame() {
        ScrollChecks x = Made.used();
        checks.due("P7 number", 3, x.copy(1));
        checks.due("P7 rows, signs and smudged cells", Made.lines(x, 1), Made.lines(x, 3));
        for (int what : new int[] {0, 1, 2, 4}) {
            checks.due("P7 number " + what, x.scrollOf(1, what), x.scrollOf(3, what));
        }
        for (int column = 0; column < 3; column++) {
            checks.due("P7 told sum of a column", x.columnSum(1, column), x.columnSum(3, column));
        }
        checks.due("P7 it differs in no cell", 0, x.differ(1, 3));
        x.copy(2);
        checks.due("P7 not sealed", 0, x.scrollOf(4, 2));
        checks.dueThrow("P7 so no told sum", NONE, () -> x.rowSum(4, 0));
        x.write(1, 0, 1, 9);
        checks.due("P7 the copy stays", 2, x.signAt(3, 0, 1));
        x.write(3, 0, 2, 9);
        checks.due("P7 the scroll stays", 3, x.signAt(1, 0, 2));
    }

    private static void p7BeginsWithoutMendedAndFilledIn() {
        ScrollChecks x = Made.used();
        checks.due("P7 mended in the first", 1, x.scrollOf(0, 5));
        checks.due("P7 filled in in the second", 1, x.scrollOf(1, 6));
        x.copy(0);
        x.copy(1);
        checks.due("P7 begins without mended", 0, x.scrollOf(3, 5));
        checks.due("P7 begins without filled in", 0, x.scrollOf(4, 6));
        checks.due("P7 the first keeps its", 1, x.scrollOf(0, 5));
        checks.due("P7 the second keeps its", 1, x.scrollOf(1, 6));
    }

    private static void p7ACopyOfACopyTellsTheCopy() {
        ScrollChecks x = Made.used();
        x.copy(1);
        x.copy(3);
        checks.due("P7 the copy", 0, x.scrollOf(1, 3));
        checks.due("P7 a copy of the copy", 1, x.scrollOf(3, 3));
        checks.due("P7 a copy of that", 3, x.scrollOf(4, 3));
    }

    // Promise 8

    private static void p8NumbersAreFrom1To9() {
        for (int by = 1; by <= 9; by++) {
            ScrollChecks x = Made.with("0");
            checks.due("P8 by " + by, by, x.slip(0, 0, 0, by));
            checks.due("P8 slipped by " + by, by, x.signAt(0, 0, 0));
            checks.due("P8 slipped so far", 1, x.account(6));
        }
        for (int by : new int[] {0, 10, -1, 11, Integer.MIN_VALUE, Integer.MAX_VALUE}) {
            unchanged.dueThrow("P8 by " + by, BAD, x -> x.slip(0, 0, 0, by));
            unchanged.dueThrow("P8 by " + by + " goes ahead of a smudged cell", BAD, x -> x.slip(1, 0, 0, by));
            unchanged.dueThrow("P8 no scroll goes first", NO_PLACE, x -> x.slip(3, 0, 0, by));
            unchanged.dueThrow("P8 no row goes first", NO_PLACE, x -> x.slip(0, 2, 0, by));
            unchanged.dueThrow("P8 no column goes first", NO_PLACE, x -> x.slip(0, 0, 3, by));
        }
    }

    private static void p8WrapsAround() {
        checks.due("P8 to 9", 9, Made.with("8").slip(0, 0, 0, 1));
        checks.due("P8 to 10", 0, Made.with("9").slip(0, 0, 0, 1));
        checks.due("P8 to 10 too", 0, Made.with("1").slip(0, 0, 0, 9));
        checks.due("P8 to 11", 1, Made.with("9").slip(0, 0, 0, 2));
        checks.due("P8 to 18", 8, Made.with("9").slip(0, 0, 0, 9));
    }

    private static void p8ASmudgedCellRefuses() {
        unchanged.dueRefusal("P8 the first cell", 3, 0, x -> x.slip(1, 0, 0, 1));
        unchanged.dueRefusal("P8 the last cell", 3, 12, x -> x.slip(1, 1, 2, 9));
        ScrollChecks x = largest();
        x.smudge(0, 5, 7);
        checks.dueRefusal("P8 the last of the largest", 3, 57, x, () -> x.slip(0, 5, 7, 1));
        checks.due("P8 the cell beside it", 1, x.slip(0, 5, 6, 1));
        checks.due("P8 slipped so far", 1, x.account(6));
    }

    private static void p8CellsAtTheEdges() {
        unchanged.dueNoCell("P8 slip", (x, scroll, row, column) -> x.slip(scroll, row, column, 1));
        ScrollChecks x = largest();
        checks.due("P8 the first cell", 1, x.slip(0, 0, 0, 1));
        checks.due("P8 the last cell", 9, x.slip(0, 5, 7, 9));
        checks.dueThrow("P8 row 6", NO_PLACE, () -> x.slip(0, 6, 0, 1));
        checks.dueThrow("P8 column 8", NO_PLACE, () -> x.slip(0, 0, 8, 1));
    }

    // Promise 9

    private static void p9FromTheFirstToTheLastCell() {
        unchanged.dueNoCell("P9 smudge", (x, scroll, row, column) -> x.smudge(scroll, row, column));
        ScrollChecks x = largest();
        for (int cell = 0; cell < 48; cell++) {
            checks.due("P9 smudged then", cell + 1, x.smudge(0, cell / 8, cell % 8));
        }
        checks.due("P9 smudged so far", 48, x.account(7));
        checks.dueThrow("P9 row 6", NO_PLACE, () -> x.smudge(0, 6, 0));
        checks.dueThrow("P9 column 8", NO_PLACE, () -> x.smudge(0, 0, 8));
    }

    private static void p9ASmudgedCellRefuses() {
        unchanged.dueRefusal("P9 the first cell", 3, 0, x -> x.smudge(1, 0, 0));
        unchanged.dueRefusal("P9 the last cell", 3, 12, x -> x.smudge(1, 1, 2));
        ScrollChecks x = largest();
        x.smudge(0, 5, 7);
        checks.dueRefusal("P9 the last of the largest", 3, 57, x, () -> x.smudge(0, 5, 7));
        x.write(0, 5, 7, 0);
        checks.due("P9 again when it is written", 1, x.smudge(0, 5, 7));
        checks.due("P9 smudged so far", 2, x.account(7));
        x.copy(0);
        checks.dueRefusal("P9 in the copy too", 3, 57, x, () -> x.smudge(1, 5, 7));
        checks.due("P9 a copy's are not smudged anew", 2, x.account(7));
    }
}
