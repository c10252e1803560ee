import java.util.NoSuchElementException;

/** Promises 19 to 28: mending, filling in, comparing, ranking, lines. */
public final class MendingTest {
    private static final Class<IndexOutOfBoundsException> NO_PLACE = IndexOutOfBoundsException.class;
    private static final Class<IllegalArgumentException> BAD = IllegalArgumentException.class;
    private static final Class<NoSuchElementException> NONE = NoSuchElementException.class;
    private static final int[] FAR = {Integer.MIN_VALUE, -536870912, -6, -1, 5, 6, 536870912, Integer.MAX_VALUE};

    private static final Checks checks = new Checks();

    public static void main(String[] args) {
        testMend();
        testMendEachCell();
        testMendRefused();
        testMendAgainRefused();
        testFill();
        testFillInOrder();
        testFillRefused();
        testWouldFill();
        testDiffer();
        testRanked();
        testCount();
        testLine();
        testCharacter();
        testPlacesThatAreNotThere();
        checks.finish();
    }

    private static void testMend() {
        ScrollChecks x = Made.sealedWith("123", "456");
        x.slip(0, 1, 2, 8);
        checks.due("P20 the cell", 12, x.wouldMend(0));
        checks.due("P21 the cell", 12, x.mendAgain(0));
        checks.due("P21 nothing is mended yet", "123|6 454|5!", Made.lines(x, 0));
        checks.due("P19 the cell", 12, x.mend(0));
        checks.due("P19 mended", "123|6 456|5", Made.lines(x, 0));
        checks.due("P19 so far in it", 1, x.scrollOf(0, 5));
        checks.due("P19 so far", 1, x.account(8));
        checks.dueThrow("P20 no more", NONE, () -> x.wouldMend(0));
        checks.dueThrow("P21 no more", NONE, () -> x.mendAgain(0));
        x.write(0, 0, 0, 9);
        x.write(0, 0, 0, 4);
        checks.due("P19 a wrong sign that was written", 0, x.mend(0));
        checks.due("P19 mended again", "123|6 456|5", Made.lines(x, 0));
        ScrollChecks small = Made.sealedWith("5");
        small.slip(0, 0, 0, 6);
        checks.due("P19 one cell", 0, small.mend(0));
        checks.due("P19 its sign", 5, small.signAt(0, 0, 0));
    }

    private static void testMendEachCell() {
        String[] rows = {"12345678", "23456789", "34567890", "45678901", "56789012", "67890123"};
        ScrollChecks all = Made.sealedWith(rows);
        for (int row = 0; row < 6; row++) {
            for (int column = 0; column < 8; column++) {
                int cell = 10 * row + column;
                int by = 1 + (row * 8 + column) % 9;
                all.slip(0, row, column, by);
                checks.due("P19 one by one " + cell, cell, all.mend(0));
                ScrollChecks x = Made.sealedWith(rows);
                String flawless = Made.lines(x, 0);
                x.slip(0, row, column, by);
                checks.due("P20 cell " + cell, cell, x.wouldMend(0));
                checks.due("P21 cell " + cell, cell, x.mendAgain(0));
                checks.due("P19 cell " + cell, cell, x.mend(0));
                checks.due("P19 flawless behind " + cell, flawless, Made.lines(x, 0));
            }
        }
        checks.due("P19 all mended", 48, all.scrollOf(0, 5));
    }

    private static void testMendRefused() {
        ScrollChecks x = Made.with("00", "11");
        x.scroll(1, 1);
        x.smudge(0, 0, 0);
        checks.dueRefusal("P19 not sealed goes first", 4, 0, x, () -> x.mend(0));
        checks.dueRefusal("P19 not sealed, another", 4, 1, x, () -> x.mend(1));
        x.write(0, 0, 0, 0);
        x.seal(0);
        checks.dueRefusal("P19 nothing is wrong", 5, 0, x, () -> x.mend(0));
        x.smudge(0, 0, 1);
        x.smudge(0, 1, 1);
        checks.dueRefusal("P19 smudged goes before what is wrong", 2, 2, x, () -> x.mend(0));
        Made.put(x, 0, "90", "11");
        checks.due("P19 one row and one column", 0, x.wouldMend(0));
        Made.put(x, 0, "91", "11");
        checks.dueRefusal("P19 no row, two columns", 6, 2, x, () -> x.mend(0));
        Made.put(x, 0, "90", "21");
        checks.dueRefusal("P19 two rows, no column", 6, 20, x, () -> x.mend(0));
        Made.put(x, 0, "10", "10");
        checks.dueRefusal("P19 two rows, two columns", 6, 22, x, () -> x.mend(0));
        Made.put(x, 0, "40", "12");
        checks.dueRefusal("P19 two rows and two columns go before faults", 6, 22, x, () -> x.mend(0));
        Made.put(x, 0, "11", "12");
        checks.dueRefusal("P19 two rows, two columns again", 6, 22, x, () -> x.mend(0));
        ScrollChecks three = Made.sealedWith("000", "000", "000");
        Made.put(three, 0, "100", "000", "200");
        checks.dueRefusal("P19 two rows, one column of three", 6, 21, three, () -> three.mend(0));
        Made.put(three, 0, "120", "000", "000");
        checks.dueRefusal("P19 one row, two columns of three", 6, 12, three, () -> three.mend(0));
        Made.put(three, 0, "100", "190", "000");
        checks.dueRefusal("P19 one row, two columns again", 6, 12, three, () -> three.mend(0));
        Made.put(three, 0, "120", "080", "000");
        checks.dueRefusal("P19 two rows, one column again", 6, 21, three, () -> three.mend(0));
        testMendRefusedForFaults();
    }

    /** Reason 7 is never met: the faults of rows and those of columns always have the same sum, but for tens. */
    private static void testMendRefusedForFaults() {
        ScrollChecks x = Made.sealedWith("000", "000", "000");
        for (int by = 1; by <= 9; by++) {
            x.slip(0, 1, 0, by);
            checks.due("P12 fault of the row", 10 - by, x.rowFault(0, 1));
            checks.due("P13 fault of the column", 10 - by, x.columnFault(0, 0));
            checks.due("P19 is not refused", 10, x.mend(0));
        }
        checks.dueThrow("P32 nothing was refused", NONE, () -> x.refusal(true));
    }

    private static void testMendAgainRefused() {
        ScrollChecks x = Made.with("000", "000", "000");
        checks.dueThrow("P20 not sealed", NONE, () -> x.wouldMend(0));
        checks.dueThrow("P21 not sealed", NONE, () -> x.mendAgain(0));
        x.seal(0);
        checks.dueThrow("P20 nothing is wrong", NONE, () -> x.wouldMend(0));
        checks.dueThrow("P21 nothing is wrong", NONE, () -> x.mendAgain(0));
        String[][] hopeless = {{"120", "000", "000"}, {"100", "000", "200"}, {"100", "010", "000"},
            {"190", "000", "000"}, {"100", "900", "000"}, {"10?", "000", "000"}, {"000", "0?0", "000"}};
        for (String[] rows : hopeless) {
            Made.put(x, 0, rows);
            String as = " " + String.join(" ", rows);
            checks.dueThrow("P20" + as, NONE, () -> x.wouldMend(0));
            checks.dueThrow("P21" + as, NONE, () -> x.mendAgain(0));
        }
        checks.dueThrow("P20 keeps no reason", NONE, () -> x.refusal(false));
    }

    private static void testFill() {
        ScrollChecks x = Made.sealedWith("12", "34");
        checks.due("P22 nothing is smudged", 0, x.fill(0));
        checks.due("P22 is a change all the same", 7, x.account(11));
        x.smudge(0, 0, 1);
        checks.due("P22 one", 1, x.fill(0));
        checks.due("P22 filled in", "12|3 34|7", Made.lines(x, 0));
        Made.put(x, 0, "1?", "?4");
        checks.due("P22 two", 2, x.fill(0));
        checks.due("P22 both", "12|3 34|7", Made.lines(x, 0));
        Made.put(x, 0, "??", "?4");
        checks.due("P22 three, one behind the other", 3, x.fill(0));
        checks.due("P22 all", "12|3 34|7", Made.lines(x, 0));
        Made.put(x, 0, "??", "??");
        checks.due("P22 none that can be", 0, x.fill(0));
        checks.due("P22 all are smudged still", 4, x.scrollOf(0, 4));
        checks.due("P22 so far in it", 6, x.scrollOf(0, 6));
        checks.due("P22 so far", 6, x.account(9));
        ScrollChecks large = Made.sealedWith("12345678", "23456789", "34567890", "45678901", "56789012", "67890123");
        String flawless = Made.lines(large, 0);
        Made.put(large, 0, "????????", "?3456789", "?4567890", "?5678901", "?6789012", "?7890123");
        checks.due("P22 thirteen", 13, large.fill(0));
        checks.due("P22 all of them", flawless, Made.lines(large, 0));
    }

    /** In a scroll with a wrong sign, the order of filling in shows in the signs. */
    private static void testFillInOrder() {
        ScrollChecks x = Made.sealedWith("000", "000", "000");
        Made.put(x, 0, "?10", "000", "000");
        x.fill(0);
        checks.due("P22 the row goes ahead of the column", 9, x.signAt(0, 0, 0));
        Made.put(x, 0, "?20", "?00", "000");
        x.fill(0);
        checks.due("P22 the first row goes first", "820|0 000|0 000|0", Made.lines(x, 0));
        Made.put(x, 0, "??0", "500", "070");
        x.fill(0);
        checks.due("P22 the first column, then the row", "550|0 500|0! 070|0!", Made.lines(x, 0));
        Made.put(x, 0, "??0", "?00", "030");
        x.fill(0);
        checks.due("P22 a later row goes ahead of a column", "000|0 000|0 030|0!", Made.lines(x, 0));
        Made.put(x, 0, "??0", "??0", "??4");
        checks.due("P22 no row and no column", 0, x.fill(0));
        Made.put(x, 0, "??0", "??0", "?14");
        checks.due("P22 a row, then nothing more", 1, x.fill(0));
        checks.due("P22 four are left", 4, x.scrollOf(0, 4));
    }

    private static void testFillRefused() {
        ScrollChecks x = Made.with("1?", "34");
        x.scroll(1, 1);
        checks.dueRefusal("P22 not sealed", 4, 0, x, () -> x.fill(0));
        checks.dueRefusal("P22 another not sealed", 4, 1, x, () -> x.fill(1));
        checks.due("P22 still smudged", "1? 34", Made.lines(x, 0));
    }

    private static void testWouldFill() {
        ScrollChecks x = Made.with("12", "?4");
        checks.dueThrow("P23 not sealed", NONE, () -> x.wouldFill(0, 1, 0));
        x.write(0, 1, 0, 3);
        x.seal(0);
        checks.dueThrow("P23 not smudged", NONE, () -> x.wouldFill(0, 1, 0));
        Made.put(x, 0, "??", "?4");
        checks.due("P23 in the first round", 3, x.wouldFill(0, 1, 0));
        checks.due("P23 in a later round", 2, x.wouldFill(0, 0, 1));
        checks.due("P23 in the last round", 1, x.wouldFill(0, 0, 0));
        checks.dueThrow("P23 not smudged but others are", NONE, () -> x.wouldFill(0, 1, 1));
        checks.due("P23 nothing is filled in", "??|3 ?4|7", Made.lines(x, 0));
        checks.due("P23 nothing is counted", 0, x.scrollOf(0, 6));
        Made.put(x, 0, "??", "??");
        checks.dueThrow("P23 would still be smudged", NONE, () -> x.wouldFill(0, 1, 1));
        checks.dueThrow("P23 no reason is kept", NONE, () -> x.refusal(false));
    }

    private static void testDiffer() {
        ScrollChecks x = Made.with("12", "3?");
        Made.add(x, "12", "3?");
        Made.add(x, "1?", "30");
        Made.add(x, "123", "456");
        Made.add(x, "12", "34", "56");
        checks.due("P24 the same", 0, x.differ(0, 1));
        checks.due("P24 itself", 0, x.differ(0, 0));
        checks.due("P24 smudged ones and others", 2, x.differ(0, 2));
        checks.due("P24 the other way", 2, x.differ(2, 0));
        checks.dueThrow("P24 as many rows alone", BAD, () -> x.differ(0, 3));
        checks.dueThrow("P24 as many columns alone", BAD, () -> x.differ(4, 0));
        Made.put(x, 1, "98", "76");
        checks.due("P24 all", 4, x.differ(0, 1));
        x.undo();
        ScrollChecks turned = Made.with("123", "456");
        Made.add(turned, "12", "34", "56");
        checks.dueThrow("P24 as many cells alone", BAD, () -> turned.differ(0, 1));
        checks.dueThrow("P24 no other goes first", NO_PLACE, () -> turned.differ(0, 2));
    }

    private static void testRanked() {
        ScrollChecks x = Made.with("?1", "23");
        Made.add(x, "12", "34");
        Made.add(x, "123", "456");
        Made.add(x, "78", "90");
        Made.add(x, "??3456", "123456");
        int[] due = {2, 1, 3, 0, 4};
        for (int place = 0; place < 5; place++) {
            checks.due("P25 place " + place, due[place], x.ranked(place));
        }
        x.seal(3);
        x.slip(3, 0, 0, 1);
        checks.due("P25 with as many doubts and cells, the lowest number", 0, x.ranked(2));
        x.slip(3, 1, 1, 1);
        checks.due("P25 the most doubts", 3, x.ranked(4));
        for (int place : new int[] {-1, 5, Integer.MIN_VALUE, Integer.MAX_VALUE}) {
            checks.dueThrow("P25 place " + place, NONE, () -> x.ranked(place));
        }
        checks.dueThrow("P25 without scrolls", NONE, () -> new ScrollChecks().ranked(0));
        ScrollChecks two = Made.with("1");
        two.scroll(6, 8);
        checks.dueThrow("P25 no third", NONE, () -> two.ranked(2));
        checks.due("P25 more cells", 1, two.ranked(0));
    }

    private static void testCount() {
        ScrollChecks x = Made.with("1?0", "011");
        checks.due("P26 ones", 3, x.count(0, 1));
        checks.due("P26 noughts, a smudged one is none", 2, x.count(0, 0));
        checks.due("P26 nines", 0, x.count(0, 9));
        for (int sign : new int[] {-1, 10, Integer.MIN_VALUE, Integer.MAX_VALUE}) {
            checks.dueThrow("P26 sign " + sign, BAD, () -> x.count(0, sign));
            checks.dueThrow("P26 no scroll goes first", NO_PLACE, () -> x.count(1, sign));
        }
    }

    private static void testLine() {
        ScrollChecks x = Made.with("1?3", "456");
        checks.due("P27 not sealed", "1?3", Made.line(x, 0, 0));
        x.write(0, 0, 1, 9);
        x.seal(0);
        checks.due("P27 sealed", "193|3", Made.line(x, 0, 0));
        x.slip(0, 1, 0, 1);
        checks.due("P27 wrong", "556|5!", Made.line(x, 0, 1));
        x.smudge(0, 1, 1);
        checks.due("P27 smudged, so not wrong", "5?6|5", Made.line(x, 0, 1));
        checks.dueThrow("P27 no row", NO_PLACE, () -> x.line(0, 2));
        checks.due("P27 the line stays", '?', x.character(1));
        ScrollChecks wide = Made.sealedWith("90000000");
        wide.slip(0, 0, 7, 8);
        checks.due("P27 length", 11, wide.line(0, 0));
        checks.due("P27 the longest", "90000008|9!", Made.line(wide, 0, 0));
        wide.undo();
        checks.due("P28 the line is not undone", '!', wide.character(10));
        checks.due("P27 in place of the line before", 10, wide.line(0, 0));
        checks.dueThrow("P28 nothing is left of it", NO_PLACE, () -> wide.character(10));
    }

    private static void testCharacter() {
        ScrollChecks x = Made.with("1?");
        checks.dueThrow("P28 empty at first", NO_PLACE, () -> x.character(0));
        x.line(0, 0);
        checks.due("P28 first", '1', x.character(0));
        checks.due("P28 last", '?', x.character(1));
        for (int index : new int[] {-1, 2, Integer.MIN_VALUE, Integer.MAX_VALUE}) {
            checks.dueThrow("P28 index " + index, NO_PLACE, () -> x.character(index));
        }
        x.save();
        x.write(0, 0, 0, 5);
        x.restore();
        checks.due("P28 stays behind restore", '1', x.character(0));
    }

    private static void testPlacesThatAreNotThere() {
        ScrollChecks x = Made.sealedWith("12345", "67890", "12345", "67890", "12345");
        for (int far : FAR) {
            String place = " of place " + far;
            checks.dueThrow("P19 mend" + place, NO_PLACE, () -> x.mend(far));
            checks.dueThrow("P20 wouldMend" + place, NO_PLACE, () -> x.wouldMend(far));
            checks.dueThrow("P21 mendAgain" + place, NO_PLACE, () -> x.mendAgain(far));
            checks.dueThrow("P22 fill" + place, NO_PLACE, () -> x.fill(far));
            checks.dueThrow("P24 differ" + place, NO_PLACE, () -> x.differ(far, 0));
            checks.dueThrow("P24 differ from" + place, NO_PLACE, () -> x.differ(0, far));
            checks.dueThrow("P26 count" + place, NO_PLACE, () -> x.count(far, 0));
            checks.dueThrow("P27 line" + place, NO_PLACE, () -> x.line(far, 0));
            checks.dueThrow("P27 line of row" + place, NO_PLACE, () -> x.line(0, far));
            int[][] cells = {{far, 0, 0}, {0, far, 0}, {0, 0, far}};
            for (int[] cell : cells) {
                checks.dueThrow("P23 wouldFill" + place, NO_PLACE, () -> x.wouldFill(cell[0], cell[1], cell[2]));
            }
        }
    }
}
