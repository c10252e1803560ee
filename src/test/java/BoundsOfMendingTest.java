import java.util.NoSuchElementException;

/** Promises 19 to 28 at their bounds: mending, filling in, comparing, ranking, lines. */
public final class BoundsOfMendingTest {
    private static final Class<IndexOutOfBoundsException> NO_PLACE = IndexOutOfBoundsException.class;
    private static final Class<IllegalArgumentException> BAD = IllegalArgumentException.class;
    private static final Class<NoSuchElementException> NONE = NoSuchElementException.class;

    private static final Checks checks = new Checks();
    private static final Unchanged unchanged = new Unchanged(checks, Made::used);
    private static final Unchanged unchangedWhenFull = new Unchanged(checks, Made::usedAndFull);

    public static void main(String[] args) {
        p19CellsAtTheEdges();
        p19SignAndFaultWrapAround();
        p19IsRefusedForTheFirstReason();
        p19HowManyAreWrongIsTold();
        p19NothingIsWrong();
        p19IsAChange();
        p20TellsAndChangesNothing();
        p21TriesEachCell();
        p21NoCellBesideTheScroll();
        p22NoneIsFilledIn();
        p22AllAreFilledIn();
        p22TheRowGoesAheadOfTheColumn();
        p22TheFirstColumnThenTheRow();
        p22TwoSmudgedOnesStay();
        p22NotSealedRefuses();
        p23TellsAndChangesNothing();
        p23IsNotToBeTold();
        p23CellsAtTheEdges();
        p24NoneAndAllDiffer();
        p24SmudgedOnes();
        p24SizesHaveToFit();
        p25PlacesAreFrom0();
        p25TheFewestDoubtsGoFirst();
        p25ThenMoreCellsThenTheLowestNumber();
        p26SignsAreFrom0To9();
        p26NoneAndAll();
        p27RowsAreFromTheFirstToTheLast();
        p27TheShortestAndTheLongest();
        p27InPlaceOfTheLineBefore();
        p28IndicesAreFrom0();
        p28IsEmptyAtFirstAndStays();
        checks.finish();
    }

    // Promises 19 to 21

    private static void p19CellsAtTheEdges() {
        unchanged.dueNoScroll("P19 mend", (x, scroll) -> x.mend(scroll));
        unchanged.dueNoScroll("P20 wouldMend", (x, scroll) -> x.wouldMend(scroll));
        unchanged.dueNoScroll("P21 mendAgain", (x, scroll) -> x.mendAgain(scroll));
        int[] cells = {0, 7, 50, 57, 23};
        for (int cell : cells) {
            ScrollChecks x = new ScrollChecks();
            x.scroll(6, 8);
            x.seal(0);
            x.slip(0, cell / 10, cell % 10, 3);
            checks.due("P20 cell " + cell, cell, x.wouldMend(0));
            checks.due("P21 cell " + cell, cell, x.mendAgain(0));
            checks.due("P19 cell " + cell, cell, x.mend(0));
            checks.due("P19 all is mended", 48, x.count(0, 0));
        }
        ScrollChecks small = Made.sealedWith("0");
        small.slip(0, 0, 0, 1);
        checks.due("P20 the only cell", 0, small.wouldMend(0));
        checks.due("P21 the only cell", 0, small.mendAgain(0));
        checks.due("P19 the only cell", 0, small.mend(0));
    }

    private static void p19SignAndFaultWrapAround() {
        for (int told = 0; told <= 9; told++) {
            for (int now = 0; now <= 9; now++) {
                if (told != now) {
                    ScrollChecks x = Made.sealedWith("00", "0" + told);
                    x.write(0, 1, 1, now);
                    String what = " told " + told + " now " + now;
                    checks.due("P21" + what, 11, x.mendAgain(0));
                    checks.due("P19" + what, 11, x.mend(0));
                    checks.due("P19 the sign" + what, told, x.signAt(0, 1, 1));
                }
            }
        }
    }

    /** Makes it sealed with signs 0, then as it is to be now; mend is refused, and the others throw. */
    private static void dueNoMend(String what, int reason, int detail, String... rows) {
        Unchanged same = new Unchanged(checks, () -> {
            ScrollChecks x = new ScrollChecks();
            x.scroll(rows.length, rows[0].length());
            x.seal(0);
            Made.put(x, 0, rows);
            return x;
        });
        same.dueRefusal("P19 " + what, reason, detail, x -> x.mend(0));
        same.dueThrow("P20 " + what, NONE, x -> x.wouldMend(0));
        same.dueThrow("P21 " + what, NONE, x -> x.mendAgain(0));
    }

    private static void p19IsRefusedForTheFirstReason() {
        unchanged.dueRefusal("P19 not sealed", 4, 2, x -> x.mend(2));
        unchanged.dueThrow("P20 not sealed", NONE, x -> x.wouldMend(2));
        unchanged.dueThrow("P21 not sealed", NONE, x -> x.mendAgain(2));
        unchangedWhenFull.dueRefusal("P19 the last is not sealed", 4, 4, x -> x.mend(4));
        Unchanged unsealed = new Unchanged(checks, () -> Made.with("?1", "1?"));
        unsealed.dueRefusal("P19 not sealed goes ahead of smudged cells", 4, 0, x -> x.mend(0));
        unchanged.dueRefusal("P19 two smudged cells", 2, 2, x -> x.mend(1));
        dueNoMend("smudged cells go ahead of nothing wrong", 2, 1, "?0", "00");
        dueNoMend("smudged cells go ahead of what is wrong", 2, 1, "010", "700", "00?");
        dueNoMend("a smudged cell beside one row and one column", 2, 1, "100", "000", "00?");
        dueNoMend("all are smudged", 2, 48, "????????", "????????", "????????", "????????", "????????", "????????");
    }

    private static void p19HowManyAreWrongIsTold() {
        dueNoMend("two columns and no row", 6, 2, "19", "00");
        dueNoMend("two rows and no column", 6, 20, "10", "90");
        dueNoMend("one row and two columns", 6, 12, "11", "00");
        dueNoMend("two rows and one column", 6, 21, "10", "10");
        dueNoMend("two rows and two columns", 6, 22, "10", "02");
        dueNoMend("two rows and two columns, all faults the same", 6, 22, "10", "01");
        dueNoMend("all rows and all columns", 6, 68, "10000000", "01000000", "00100000", "00010000", "00001000",
            "00000111");
        dueNoMend("all rows and no column", 6, 60, "5", "5", "5", "5", "5", "5");
        dueNoMend("all columns and no row", 6, 8, "55555555");
    }

    private static void p19NothingIsWrong() {
        dueNoMend("nothing is wrong", 5, 0, "00", "00");
        dueNoMend("nothing is wrong, though signs are", 5, 0, "19", "91");
        dueNoMend("nothing is wrong in one cell", 5, 0, "0");
    }

    private static void p19IsAChange() {
        ScrollChecks x = Made.used();
        checks.due("P19 the cell", 11, x.mend(0));
        checks.due("P19 mended in it", 2, x.scrollOf(0, 5));
        checks.due("P19 mended in all", 2, x.account(8));
        checks.dueRefusal("P19 a second time", 5, 0, x, () -> x.mend(0));
        x.undo();
        checks.due("P19 undone, in it", 1, x.scrollOf(0, 5));
        checks.due("P19 undone, in all", 1, x.account(8));
        checks.due("P19 undone, the sign", 9, x.signAt(0, 1, 1));
    }

    private static void p20TellsAndChangesNothing() {
        unchanged.dueAnswer("P20 the cell", 11, x -> x.wouldMend(0));
    }

    private static void p21TriesEachCell() {
        unchanged.dueAnswer("P21 the cell", 11, x -> x.mendAgain(0));
        for (int by = 1; by <= 9; by++) {
            ScrollChecks x = Made.sealedWith("19", "28");
            x.slip(0, 0, 1, by);
            checks.due("P21 another sign by " + by, 1, x.mendAgain(0));
            checks.due("P21 leaves the sign", (9 + by) % 10, x.signAt(0, 0, 1));
        }
    }

    /** Two columns, or two rows, with the same fault: a cell of a row or a column more would mend them. */
    private static void p21NoCellBesideTheScroll() {
        for (int rows = 1; rows <= 6; rows++) {
            for (int columns = 1; columns <= 8; columns++) {
                for (int column = 1; column < columns; column++) {
                    dueNoMend(rows, columns, 0, column);
                }
                for (int row = 1; row < rows; row++) {
                    dueNoMend(rows, columns, row, 0);
                }
            }
        }
    }

    /** Lets the first cell and another one of its row or column slip by 5. */
    private static void dueNoMend(int rows, int columns, int row, int column) {
        ScrollChecks x = new ScrollChecks();
        x.scroll(rows, columns);
        x.seal(0);
        x.slip(0, 0, 0, 5);
        x.slip(0, row, column, 5);
        String what = " of " + rows + " by " + columns + ", cell " + (10 * row + column);
        checks.due("P15 wrong columns" + what, column > 0 ? 2 : 0, x.wrongColumns(0));
        checks.due("P14 wrong rows" + what, column > 0 ? 0 : 2, x.wrongRows(0));
        checks.dueThrow("P20 none" + what, NONE, () -> x.wouldMend(0));
        checks.dueThrow("P21 none" + what, NONE, () -> x.mendAgain(0));
    }

    // Promises 22 and 23

    private static void p22NoneIsFilledIn() {
        ScrollChecks x = Made.used();
        checks.due("P22 none is smudged", 0, x.fill(0));
        checks.due("P22 eight changes still", 8, x.account(11));
        x.undo();
        checks.due("P22 it was one of them", 7, x.account(11));
        checks.due("P22 undone, nothing is different", "123|6 496|5!", Made.lines(x, 0));
        ScrollChecks full = Made.sealedWith("12", "34");
        Made.put(full, 0, "??", "??");
        full.save();
        full.restore();
        checks.due("P22 none can be filled in", 0, full.fill(0));
        checks.due("P22 is a change also then", 1, full.account(11));
        checks.due("P22 all are smudged still", 4, full.scrollOf(0, 4));
        checks.due("P22 none so far", 0, full.account(9));
        checks.due("P22 undone", 0, full.undo());
    }

    private static void p22AllAreFilledIn() {
        ScrollChecks x = Made.used();
        checks.due("P22 both", 2, x.fill(1));
        checks.due("P22 the lines", "123|6 456|5", Made.lines(x, 1));
        checks.due("P22 in it", 3, x.scrollOf(1, 6));
        checks.due("P22 in all", 3, x.account(9));
        checks.due("P22 none is left", 0, x.fill(1));
        ScrollChecks wide = Made.sealedWith("12345678");
        Made.put(wide, 0, "????????");
        checks.due("P22 a row of eight, by its columns", 8, wide.fill(0));
        checks.due("P22 the row", "12345678|6", Made.lines(wide, 0));
        ScrollChecks high = Made.sealedWith("1", "2", "3", "4", "5", "6");
        Made.put(high, 0, "?", "?", "?", "?", "?", "?");
        checks.due("P22 a column of six, by its rows", 6, high.fill(0));
        checks.due("P22 the column", "1|1 2|2 3|3 4|4 5|5 6|6", Made.lines(high, 0));
        ScrollChecks one = Made.sealedWith("7");
        one.smudge(0, 0, 0);
        checks.due("P22 the only cell", 1, one.fill(0));
        checks.due("P22 its sign", 7, one.signAt(0, 0, 0));
    }

    private static void p22TheRowGoesAheadOfTheColumn() {
        ScrollChecks x = Made.sealedWith("00", "00");
        Made.put(x, 0, "?1", "20");
        checks.due("P22 one", 1, x.fill(0));
        checks.due("P22 by its row", 9, x.signAt(0, 0, 0));
        ScrollChecks last = Made.sealedWith("000", "000", "000");
        Made.put(last, 0, "??0", "0?0", "04?");
        checks.due("P22 all", 4, last.fill(0));
        checks.due("P22 the later rows first, then the column", "000|0 000|0 046|0", Made.lines(last, 0));
        ScrollChecks corner = Made.sealedWith("00000000", "00000000", "00000000", "00000000", "00000000", "00000000");
        Made.put(corner, 0, "00000001", "00000000", "00000000", "00000000", "00000000", "5000000?");
        corner.fill(0);
        checks.due("P22 the last cell by the last row", 5, corner.signAt(0, 5, 7));
    }

    private static void p22TheFirstColumnThenTheRow() {
        ScrollChecks x = Made.sealedWith("000", "000");
        Made.put(x, 0, "??0", "120");
        checks.due("P22 two", 2, x.fill(0));
        checks.due("P22 the first column, then the row", "910|0 120|0!", Made.lines(x, 0));
        ScrollChecks three = Made.sealedWith("000", "000");
        Made.put(three, 0, "???", "123");
        checks.due("P22 three", 3, three.fill(0));
        checks.due("P22 two columns, then the row", "983|0 123|0!", Made.lines(three, 0));
        ScrollChecks right = Made.sealedWith("00", "00", "00");
        Made.put(right, 0, "??", "??", "?6");
        checks.due("P22 only the row with one", 1, right.fill(0));
        checks.due("P22 four stay", "??|0 ??|0 46|0", Made.lines(right, 0));
    }

    private static void p22TwoSmudgedOnesStay() {
        ScrollChecks x = Made.sealedWith("123", "456", "789");
        Made.put(x, 0, "??3", "??6", "78?");
        checks.due("P22 the lone one", 1, x.fill(0));
        checks.due("P22 the others stay", "??3|6 ??6|5 789|4", Made.lines(x, 0));
        checks.due("P22 in it", 1, x.scrollOf(0, 6));
        checks.due("P22 smudged", 4, x.scrollOf(0, 4));
    }

    private static void p22NotSealedRefuses() {
        unchanged.dueNoScroll("P22 fill", (x, scroll) -> x.fill(scroll));
        unchanged.dueRefusal("P22 not sealed", 4, 2, x -> x.fill(2));
        unchangedWhenFull.dueRefusal("P22 the last is not sealed", 4, 4, x -> x.fill(4));
        Unchanged smudged = new Unchanged(checks, () -> Made.with("1?"));
        smudged.dueRefusal("P22 the first is not sealed", 4, 0, x -> x.fill(0));
    }

    private static void p23TellsAndChangesNothing() {
        unchanged.dueAnswer("P23 by the first row", 1, x -> x.wouldFill(1, 0, 0));
        unchanged.dueAnswer("P23 by the last row", 6, x -> x.wouldFill(1, 1, 2));
        ScrollChecks x = Made.sealedWith("00", "00");
        Made.put(x, 0, "??", "12");
        checks.due("P23 the first column goes first", 9, x.wouldFill(0, 0, 0));
        checks.due("P23 then the row", 1, x.wouldFill(0, 0, 1));
        checks.due("P23 as fill does", 2, x.fill(0));
        checks.due("P23 the signs", "91", "" + x.signAt(0, 0, 0) + x.signAt(0, 0, 1));
    }

    private static void p23IsNotToBeTold() {
        unchanged.dueThrow("P23 not sealed", NONE, x -> x.wouldFill(2, 0, 0));
        unchanged.dueThrow("P23 not smudged", NONE, x -> x.wouldFill(0, 0, 0));
        unchanged.dueThrow("P23 not smudged, though others are", NONE, x -> x.wouldFill(1, 0, 1));
        Unchanged unsealed = new Unchanged(checks, () -> Made.with("1?"));
        unsealed.dueThrow("P23 smudged and not sealed", NONE, x -> x.wouldFill(0, 0, 1));
        Unchanged block = new Unchanged(checks, () -> {
            ScrollChecks x = Made.sealedWith("123", "456", "789");
            Made.put(x, 0, "12?", "??6", "??9");
            return x;
        });
        for (int cell : new int[] {10, 11, 20, 21}) {
            block.dueThrow("P23 would still be smudged, " + cell, NONE, x -> x.wouldFill(0, cell / 10, cell % 10));
        }
        block.dueAnswer("P23 the lone one", 3, x -> x.wouldFill(0, 0, 2));
    }

    private static void p23CellsAtTheEdges() {
        unchanged.dueNoCell("P23 wouldFill", (x, scroll, row, column) -> x.wouldFill(scroll, row, column));
        unchanged.dueThrow("P23 no row goes ahead of not sealed", NO_PLACE, x -> x.wouldFill(2, 1, 0));
        unchanged.dueThrow("P23 no column goes ahead of not sealed", NO_PLACE, x -> x.wouldFill(2, 0, 2));
        ScrollChecks x = Made.sealedWith("12345678", "23456789", "34567890", "45678901", "56789012", "67890123");
        x.smudge(0, 0, 0);
        x.smudge(0, 5, 7);
        checks.due("P23 the first cell", 1, x.wouldFill(0, 0, 0));
        checks.due("P23 the last cell", 3, x.wouldFill(0, 5, 7));
        checks.dueThrow("P23 row 6", NO_PLACE, () -> x.wouldFill(0, 6, 0));
        checks.dueThrow("P23 column 8", NO_PLACE, () -> x.wouldFill(0, 0, 8));
    }

    // Promise 24

    private static void p24NoneAndAllDiffer() {
        ScrollChecks x = Made.with("00000000", "00000000", "00000000", "00000000", "00000000", "00000000");
        x.copy(0);
        checks.due("P24 none", 0, x.differ(0, 1));
        checks.due("P24 itself", 0, x.differ(1, 1));
        x.write(1, 0, 0, 1);
        checks.due("P24 the first cell", 1, x.differ(0, 1));
        x.write(1, 5, 7, 1);
        checks.due("P24 the last cell too", 2, x.differ(1, 0));
        for (int cell = 0; cell < 48; cell++) {
            x.write(1, cell / 8, cell % 8, 9);
        }
        checks.due("P24 all", 48, x.differ(0, 1));
        ScrollChecks high = Made.with("1", "1", "1", "1", "1", "1");
        Made.add(high, "1", "1", "1", "1", "1", "2");
        checks.due("P24 the last row of one column", 1, high.differ(0, 1));
        ScrollChecks wide = Made.with("11111111");
        Made.add(wide, "11111112");
        checks.due("P24 the last column of one row", 1, wide.differ(0, 1));
    }

    private static void p24SmudgedOnes() {
        unchanged.dueAnswer("P24 two smudged ones and a wrong one", 3, x -> x.differ(0, 1));
        ScrollChecks x = Made.with("?0?");
        Made.add(x, "??0");
        checks.due("P24 two smudged ones do not differ, others do", 2, x.differ(0, 1));
        checks.due("P24 the other way", 2, x.differ(1, 0));
        checks.due("P24 itself", 0, x.differ(0, 0));
    }

    private static void p24SizesHaveToFit() {
        unchanged.dueNoScroll("P24 differ", (x, scroll) -> x.differ(scroll, 0));
        unchanged.dueNoScroll("P24 differ from", (x, scroll) -> x.differ(0, scroll));
        unchanged.dueThrow("P24 neither rows nor columns", BAD, x -> x.differ(0, 2));
        unchanged.dueThrow("P24 no other goes first", NO_PLACE, x -> x.differ(2, 3));
        int[][] sizes = {{2, 4}, {2, 2}, {1, 3}, {3, 3}, {3, 2}, {1, 6}, {6, 1}};
        for (int[] size : sizes) {
            Unchanged two = new Unchanged(checks, () -> {
                ScrollChecks x = Made.with("123", "456");
                x.scroll(size[0], size[1]);
                return x;
            });
            two.dueThrow("P24 2 times 3 and " + size[0] + " times " + size[1], BAD, x -> x.differ(0, 1));
            two.dueThrow("P24 " + size[0] + " times " + size[1] + " and 2 times 3", BAD, x -> x.differ(1, 0));
        }
    }

    // Promise 25

    private static void p25PlacesAreFrom0() {
        int[] order = {2, 0, 1};
        for (int place = 0; place < 3; place++) {
            int asked = place;
            unchanged.dueAnswer("P25 place " + place, order[place], x -> x.ranked(asked));
        }
        for (int place : new int[] {-1, 3, 4, 5, Integer.MIN_VALUE, Integer.MAX_VALUE}) {
            unchanged.dueThrow("P25 place " + place, NONE, x -> x.ranked(place));
        }
        unchangedWhenFull.dueThrow("P25 place 5 of five", NONE, x -> x.ranked(5));
        checks.due("P25 place 4 of five", 3, Made.usedAndFull().ranked(4));
        checks.dueThrow("P25 without scrolls", NONE, () -> new ScrollChecks().ranked(0));
        checks.due("P25 the only one", 0, Made.with("?").ranked(0));
        checks.dueThrow("P25 behind the only one", NONE, () -> Made.with("?").ranked(1));
    }

    private static void dueOrder(String what, ScrollChecks x, int... order) {
        for (int place = 0; place < order.length; place++) {
            checks.due("P25 " + what + ", place " + place, order[place], x.ranked(place));
        }
    }

    private static void p25TheFewestDoubtsGoFirst() {
        ScrollChecks x = new ScrollChecks();
        x.scroll(6, 8);
        x.scroll(1, 1);
        dueOrder("more cells", x, 0, 1);
        x.smudge(0, 0, 0);
        dueOrder("one doubt counts more than 47 cells", x, 1, 0);
        x.smudge(1, 0, 0);
        dueOrder("one doubt each, more cells", x, 0, 1);
        x.smudge(0, 0, 1);
        dueOrder("two doubts and one", x, 1, 0);
        ScrollChecks full = new ScrollChecks();
        full.scroll(6, 8);
        full.scroll(6, 8);
        for (int cell = 0; cell < 48; cell++) {
            full.smudge(0, cell / 8, cell % 8);
        }
        for (int cell = 0; cell < 47; cell++) {
            full.smudge(1, cell / 8, cell % 8);
        }
        dueOrder("47 doubts and 48", full, 1, 0);
    }

    private static void p25ThenMoreCellsThenTheLowestNumber() {
        ScrollChecks x = new ScrollChecks();
        x.scroll(2, 2);
        x.scroll(1, 4);
        x.scroll(1, 5);
        x.scroll(4, 1);
        x.scroll(1, 3);
        dueOrder("one cell more or less, and four cells each", x, 2, 0, 1, 3, 4);
        ScrollChecks same = Made.with("1");
        same.copy(0);
        same.copy(0);
        same.copy(0);
        same.copy(0);
        dueOrder("five alike", same, 0, 1, 2, 3, 4);
        same.smudge(0, 0, 0);
        dueOrder("the first is smudged", same, 1, 2, 3, 4, 0);
    }

    // Promise 26

    private static void p26SignsAreFrom0To9() {
        ScrollChecks x = Made.with("01234567", "89999999");
        for (int sign = 0; sign <= 9; sign++) {
            checks.due("P26 sign " + sign, sign == 9 ? 7 : 1, x.count(0, sign));
        }
        unchanged.dueNoScroll("P26 count", (y, scroll) -> y.count(scroll, 0));
        for (int sign : new int[] {-1, 10, Integer.MIN_VALUE, Integer.MAX_VALUE}) {
            unchanged.dueThrow("P26 sign " + sign, BAD, y -> y.count(1, sign));
            unchanged.dueThrow("P26 no scroll goes ahead of sign " + sign, NO_PLACE, y -> y.count(3, sign));
        }
    }

    private static void p26NoneAndAll() {
        unchanged.dueAnswer("P26 one", 1, x -> x.count(1, 2));
        ScrollChecks x = new ScrollChecks();
        x.scroll(6, 8);
        checks.due("P26 all", 48, x.count(0, 0));
        checks.due("P26 none", 0, x.count(0, 1));
        x.smudge(0, 5, 7);
        checks.due("P26 a smudged one is no sign", 47, x.count(0, 0));
    }

    // Promises 27 and 28

    private static void p27RowsAreFromTheFirstToTheLast() {
        unchanged.dueNoRow("P27 line", (x, scroll, row) -> x.line(scroll, row));
        ScrollChecks x = Made.with("1", "2", "3", "4", "5", "6");
        checks.due("P27 the first row", "1", Made.line(x, 0, 0));
        checks.due("P27 the last row", "6", Made.line(x, 0, 5));
        checks.dueThrow("P27 row 6", NO_PLACE, () -> x.line(0, 6));
        checks.dueThrow("P27 row -1", NO_PLACE, () -> x.line(0, -1));
        checks.due("P27 the line stays", '6', x.character(0));
        ScrollChecks wide = Made.with("123");
        checks.dueThrow("P27 row 1, as many as columns", NO_PLACE, () -> wide.line(0, 1));
    }

    private static void p27TheShortestAndTheLongest() {
        ScrollChecks one = Made.with("?");
        checks.due("P27 one cell", 1, one.line(0, 0));
        checks.due("P27 smudged", "?", Made.line(one, 0, 0));
        ScrollChecks x = Made.sealedWith("01234567", "89000000");
        checks.due("P27 sealed", 10, x.line(0, 0));
        checks.due("P27 all signs", "01234567|8 89000000|7", Made.lines(x, 0));
        x.slip(0, 1, 7, 9);
        checks.due("P27 wrong", 11, x.line(0, 1));
        checks.due("P27 the longest", "89000009|7!", Made.line(x, 0, 1));
        checks.due("P27 the other row is not", "01234567|8", Made.line(x, 0, 0));
        x.smudge(0, 1, 0);
        checks.due("P27 smudged, so not wrong", "?9000009|7", Made.line(x, 0, 1));
        x.write(0, 1, 0, 9);
        checks.due("P27 a sum that is 10 more is not wrong", "99000009|7", Made.line(x, 0, 1));
    }

    private static void p27InPlaceOfTheLineBefore() {
        ScrollChecks x = Made.used();
        checks.due("P27 six characters", 6, x.line(0, 1));
        checks.due("P27 two characters", 2, x.line(2, 0));
        checks.due("P28 the second", '0', x.character(1));
        checks.dueThrow("P28 nothing is left of the six", NO_PLACE, () -> x.character(2));
        x.line(0, 1);
        checks.due("P27 six again", '!', x.character(5));
    }

    private static void p28IndicesAreFrom0() {
        String line = "496|5!";
        for (int index = 0; index < 6; index++) {
            int asked = index;
            unchanged.dueAnswer("P28 index " + index, line.charAt(index), x -> x.character(asked));
        }
        for (int index : new int[] {-1, 6, 7, Integer.MIN_VALUE, Integer.MAX_VALUE}) {
            unchanged.dueThrow("P28 index " + index, NO_PLACE, x -> x.character(index));
        }
    }

    private static void p28IsEmptyAtFirstAndStays() {
        ScrollChecks x = Made.with("12");
        checks.dueThrow("P28 empty at first", NO_PLACE, () -> x.character(0));
        checks.dueThrow("P28 empty at first, ahead of it", NO_PLACE, () -> x.character(-1));
        x.line(0, 0);
        x.save();
        x.write(0, 0, 0, 5);
        checks.due("P28 stays as it was written", '1', x.character(0));
        x.undo();
        x.undo();
        x.restore();
        Made.read(x, "w0:0,0=7");
        checks.due("P28 stays behind undo, restore and read", '1', x.character(0));
        checks.dueThrow("P28 nothing behind it", NO_PLACE, () -> x.character(2));
    }
}
