/** Promises 1 to 9: scrolls and signs. */
public final class ScrollsTest {
    private static final Class<IndexOutOfBoundsException> NO_PLACE = IndexOutOfBoundsException.class;
    private static final Class<IllegalArgumentException> BAD = IllegalArgumentException.class;
    private static final int[] FAR = {Integer.MIN_VALUE, -536870912, -1, 5, 536870912, Integer.MAX_VALUE};

    private static final Checks checks = new Checks();

    public static void main(String[] args) {
        testNewObject();
        testScroll();
        testScrollOf();
        testWrite();
        testSignAt();
        testSeal();
        testCopy();
        testSlip();
        testSmudge();
        testPlacesThatAreNotThere();
        checks.finish();
    }

    private static void testNewObject() {
        ScrollChecks x = new ScrollChecks();
        for (int what = 0; what <= 11; what++) {
            checks.due("P1 account " + what, 0, x.account(what));
        }
        checks.dueThrow("P1 no scroll", NO_PLACE, () -> x.scrollOf(0, 0));
        checks.dueThrow("P1 nothing refused", java.util.NoSuchElementException.class, () -> x.refusal(false));
        checks.due("P1 no text", -1, x.errorPosition());
    }

    private static void testScroll() {
        ScrollChecks x = new ScrollChecks();
        int[][] bad = {{0, 1}, {7, 1}, {1, 0}, {1, 9}, {-1, 1}, {1, -1},
            {Integer.MIN_VALUE, 1}, {1, Integer.MAX_VALUE}, {Integer.MAX_VALUE, Integer.MAX_VALUE}};
        for (int[] size : bad) {
            checks.dueThrow("P2 size " + size[0] + " " + size[1], BAD, () -> x.scroll(size[0], size[1]));
        }
        checks.due("P2 none begun", 0, x.account(0));
        checks.due("P2 number 0", 0, x.scroll(6, 8));
        checks.due("P2 rows", 6, x.scrollOf(0, 0));
        checks.due("P2 columns", 8, x.scrollOf(0, 1));
        checks.due("P2 not sealed", 0, x.scrollOf(0, 2));
        checks.due("P2 signs at first", "00000000 00000000 00000000 00000000 00000000 00000000", Made.lines(x, 0));
        checks.due("P2 number 1", 1, x.scroll(1, 1));
        checks.due("P2 number 2", 2, x.scroll(1, 8));
        checks.due("P2 number 3", 3, x.scroll(6, 1));
        checks.due("P2 number 4", 4, x.scroll(2, 2));
        checks.dueThrow("P2 a bad size goes first", BAD, () -> x.scroll(0, 2));
        checks.dueRefusal("P2 a sixth", 1, 5, x, () -> x.scroll(2, 2));
        checks.due("P2 five", 5, x.account(0));
        checks.due("P2 five changes", 5, x.account(11));
        testScrollBegunAgain();
    }

    private static void testScrollBegunAgain() {
        ScrollChecks x = Made.sealedWith("12", "34");
        x.smudge(0, 0, 0);
        x.fill(0);
        for (int change = 0; change < 8; change++) {
            checks.due("P2 undone", 7 - change, x.undo());
        }
        checks.due("P2 begun where one was undone", 0, x.scroll(2, 3));
        checks.due("P2 nothing of it is left", "000 000", Made.lines(x, 0));
        checks.due("P2 its filled in", 0, x.scrollOf(0, 6));
    }

    private static void testScrollOf() {
        ScrollChecks x = Made.with("123", "456");
        int[] due = {2, 3, 0, -1, 0, 0, 0};
        for (int what = 0; what <= 6; what++) {
            checks.due("P3 what " + what, due[what], x.scrollOf(0, what));
        }
        for (int what : new int[] {-1, 7, Integer.MIN_VALUE, Integer.MAX_VALUE}) {
            checks.dueThrow("P3 what " + what, BAD, () -> x.scrollOf(0, what));
            checks.dueThrow("P3 no scroll goes first", NO_PLACE, () -> x.scrollOf(1, what));
        }
        x.seal(0);
        checks.due("P3 sealed", 1, x.scrollOf(0, 2));
        x.slip(0, 1, 1, 3);
        x.mend(0);
        x.slip(0, 0, 2, 3);
        x.mend(0);
        checks.due("P3 mended", 2, x.scrollOf(0, 5));
        x.smudge(0, 0, 0);
        x.smudge(0, 1, 1);
        checks.due("P3 smudged", 2, x.scrollOf(0, 4));
        x.fill(0);
        checks.due("P3 smudged no more", 0, x.scrollOf(0, 4));
        checks.due("P3 filled in", 2, x.scrollOf(0, 6));
        x.copy(0);
        checks.due("P3 of which it is a copy", 0, x.scrollOf(1, 3));
        checks.due("P3 the original is none", -1, x.scrollOf(0, 3));
    }

    private static void testWrite() {
        ScrollChecks x = Made.with("00", "00");
        checks.due("P4 before", 0, x.write(0, 1, 0, 9));
        checks.due("P4 before that", 9, x.write(0, 1, 0, 0));
        checks.due("P4 the same", 0, x.write(0, 1, 0, 0));
        checks.due("P4 is a change also if nothing is different", 4, x.account(11));
        for (int sign : new int[] {-1, 10, Integer.MIN_VALUE, Integer.MAX_VALUE}) {
            checks.dueThrow("P4 sign " + sign, BAD, () -> x.write(0, 0, 0, sign));
            checks.dueThrow("P4 no row goes first", NO_PLACE, () -> x.write(0, 2, 0, sign));
        }
        checks.due("P4 no change", 4, x.account(11));
        x.smudge(0, 0, 1);
        checks.due("P4 smudged", -1, x.write(0, 0, 1, 7));
        checks.due("P4 not smudged then", 0, x.scrollOf(0, 4));
        checks.due("P4 the sign", 7, x.signAt(0, 0, 1));
        x.seal(0);
        x.write(0, 0, 1, 8);
        checks.due("P4 told sums of rows stay", 7, x.rowSum(0, 0));
        checks.due("P4 told sums of columns stay", 7, x.columnSum(0, 1));
    }

    private static void testSignAt() {
        ScrollChecks x = Made.with("12345678", "90?00000");
        checks.due("P5 first", 1, x.signAt(0, 0, 0));
        checks.due("P5 last of the row", 8, x.signAt(0, 0, 7));
        checks.due("P5 next row", 9, x.signAt(0, 1, 0));
        checks.due("P5 smudged", -1, x.signAt(0, 1, 2));
        checks.due("P5 at first", 0, x.signAt(0, 1, 7));
    }

    private static void testSeal() {
        ScrollChecks x = Made.with("789", "111", "055");
        checks.due("P6 all rows, each without tens", 4 + 3 + 0, x.seal(0));
        checks.due("P6 sealed", 1, x.scrollOf(0, 2));
        checks.due("P6 lines", "789|4 111|3 055|0", Made.lines(x, 0));
        x.slip(0, 0, 0, 9);
        checks.due("P6 until it is sealed anew", "689|4! 111|3 055|0", Made.lines(x, 0));
        checks.due("P6 anew", 3 + 3 + 0, x.seal(0));
        checks.due("P6 lines anew", "689|3 111|3 055|0", Made.lines(x, 0));
        x.smudge(0, 2, 2);
        x.smudge(0, 0, 2);
        checks.dueRefusal("P6 smudged", 2, 2, x, () -> x.seal(0));
        checks.due("P6 told sums stay", 0, x.rowSum(0, 2));
        ScrollChecks full = Made.with("99999999", "99999999", "99999999", "99999999", "99999999", "99999999");
        checks.due("P6 full", 12, full.seal(0));
        checks.due("P6 full column", 4, full.columnSum(0, 7));
    }

    private static void testCopy() {
        ScrollChecks x = Made.sealedWith("45", "67");
        x.slip(0, 0, 0, 1);
        x.mend(0);
        x.smudge(0, 1, 1);
        checks.due("P7 number", 1, x.copy(0));
        checks.due("P7 the same", "45|9 6?|3", Made.lines(x, 1));
        checks.due("P7 the same told sum of a column", 2, x.columnSum(1, 1));
        checks.due("P7 begins without mended", 0, x.scrollOf(1, 5));
        x.fill(0);
        checks.due("P7 the copy stands for itself", "45|9 6?|3", Made.lines(x, 1));
        checks.due("P7 a copy of a copy", 2, x.copy(1));
        checks.due("P7 tells the copy", 1, x.scrollOf(2, 3));
        x.fill(2);
        checks.due("P7 filled in", 1, x.scrollOf(2, 6));
        checks.due("P7 a third copy", 3, x.copy(2));
        checks.due("P7 begins without filled in", 0, x.scrollOf(3, 6));
        checks.due("P7 the last", 4, x.copy(0));
        checks.dueRefusal("P7 a sixth", 1, 5, x, () -> x.copy(0));
        checks.dueThrow("P7 no scroll goes first", NO_PLACE, () -> x.copy(5));
        ScrollChecks unsealed = Made.with("12");
        unsealed.copy(0);
        checks.due("P7 not sealed", 0, unsealed.scrollOf(1, 2));
    }

    private static void testSlip() {
        ScrollChecks x = Made.with("70", "00");
        checks.due("P8 by 1", 8, x.slip(0, 0, 0, 1));
        checks.due("P8 by 9", 7, x.slip(0, 0, 0, 9));
        checks.due("P8 to 0", 0, x.slip(0, 0, 0, 3));
        for (int by : new int[] {0, 10, -1, Integer.MIN_VALUE, Integer.MAX_VALUE}) {
            checks.dueThrow("P8 by " + by, BAD, () -> x.slip(0, 0, 0, by));
            checks.dueThrow("P8 no column goes first", NO_PLACE, () -> x.slip(0, 0, 2, by));
        }
        x.smudge(0, 1, 0);
        checks.dueRefusal("P8 smudged", 3, 10, x, () -> x.slip(0, 1, 0, 1));
        checks.dueThrow("P8 a bad number goes first", BAD, () -> x.slip(0, 1, 0, 10));
        checks.due("P8 slipped", 3, x.account(6));
    }

    private static void testSmudge() {
        ScrollChecks x = Made.with("12345678", "12345678");
        checks.due("P9 one", 1, x.smudge(0, 1, 7));
        checks.due("P9 two", 2, x.smudge(0, 0, 0));
        checks.dueRefusal("P9 again", 3, 17, x, () -> x.smudge(0, 1, 7));
        checks.dueRefusal("P9 the other again", 3, 0, x, () -> x.smudge(0, 0, 0));
        checks.due("P9 signs", "?2345678 1234567?", Made.lines(x, 0));
        x.write(0, 1, 7, 3);
        checks.due("P9 one is left", 1, x.scrollOf(0, 4));
        checks.due("P9 smudged so far", 2, x.account(7));
    }

    private static void testPlacesThatAreNotThere() {
        ScrollChecks x = Made.sealedWith("12345", "67890", "12345", "67890", "12345");
        for (int far : FAR) {
            String place = " of place " + far;
            checks.dueThrow("P3 scrollOf" + place, NO_PLACE, () -> x.scrollOf(far, 0));
            checks.dueThrow("P6 seal" + place, NO_PLACE, () -> x.seal(far));
            checks.dueThrow("P7 copy" + place, NO_PLACE, () -> x.copy(far));
            int[][] cells = {{far, 0, 0}, {0, far, 0}, {0, 0, far}};
            for (int[] cell : cells) {
                checks.dueThrow("P4 write" + place, NO_PLACE, () -> x.write(cell[0], cell[1], cell[2], 1));
                checks.dueThrow("P5 signAt" + place, NO_PLACE, () -> x.signAt(cell[0], cell[1], cell[2]));
                checks.dueThrow("P8 slip" + place, NO_PLACE, () -> x.slip(cell[0], cell[1], cell[2], 1));
                checks.dueThrow("P9 smudge" + place, NO_PLACE, () -> x.smudge(cell[0], cell[1], cell[2]));
            }
        }
        checks.due("P4 nothing is different", "12345|5 67890|0 12345|5 67890|0 12345|5", Made.lines(x, 0));
    }
}
