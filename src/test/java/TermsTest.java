import java.util.NoSuchElementException;

/** The chapter 'Terms' of the document: a method for each of its paragraphs. */
public final class TermsTest {
    private static final Class<IllegalArgumentException> BAD = IllegalArgumentException.class;
    private static final Class<IllegalStateException> NO_STATE = IllegalStateException.class;
    private static final Class<IndexOutOfBoundsException> NO_PLACE = IndexOutOfBoundsException.class;
    private static final Class<NoSuchElementException> NONE = NoSuchElementException.class;
    private static final Class<UnsupportedOperationException> REFUSED = UnsupportedOperationException.class;

    private static final Checks checks = new Checks();

    public static void main(String[] args) {
        testScrolls();
        testSums();
        testFaults();
        testWrongRowsAndColumns();
        testMending();
        testFillingIn();
        testCopies();
        testLines();
        testTexts();
        testErrorPositions();
        testReasons();
        testUndo();
        testExceptions();
        testInDoubtToo();
        checks.finish();
    }

    private static void testScrolls() {
        ScrollChecks x = new ScrollChecks();
        for (int number = 0; number < 5; number++) {
            checks.due("scrolls are numbered from 0", number, x.scroll(1 + number, 4 + number));
        }
        checks.dueThrow("at most 5 are kept", REFUSED, () -> x.scroll(1, 1));
        checks.due("each sign is 0 at first", 40, x.count(4, 0));
        x.write(4, 4, 7, 9);
        x.smudge(4, 4, 6);
        checks.due("or smudged: then it cannot be seen", "000000?9", Made.line(x, 4, 4));
    }

    private static void testSums() {
        ScrollChecks x = Made.with("78", "95");
        checks.due("divided by 10", 9, x.seal(0));
        checks.due("a row", 5, x.rowSum(0, 0));
        checks.due("a column", 6, x.columnSum(0, 0));
        x.write(0, 0, 0, 0);
        x.smudge(0, 1, 0);
        checks.due("told, until it is sealed anew", 5, x.rowSum(0, 0));
        checks.due("told, also with a smudge", 6, x.columnSum(0, 0));
        x.write(0, 1, 0, 0);
        checks.due("anew", 8 + 5, x.seal(0));
        checks.due("a row anew", 8, x.rowSum(0, 0));
        checks.due("a column anew", 0, x.columnSum(0, 0));
    }

    private static void testFaults() {
        ScrollChecks x = Made.sealedWith("12", "34");
        x.write(0, 0, 1, 9);
        checks.due("told 3, now 0", 3, x.rowFault(0, 0));
        checks.due("told 6, now 3", 3, x.columnFault(0, 1));
        x.write(0, 0, 1, 4);
        checks.due("told 3, now 5, and 10 more", 8, x.rowFault(0, 0));
        x.smudge(0, 0, 1);
        checks.due("a smudged one counts 0", 2, x.rowFault(0, 0));
    }

    private static void testWrongRowsAndColumns() {
        ScrollChecks x = Made.sealedWith("123", "456");
        x.slip(0, 0, 1, 5);
        checks.due("a row is wrong", 1, x.wrongRows(0));
        checks.due("a column is wrong", 1, x.wrongColumns(0));
        checks.due("in doubt, both are wrong", true, x.isInDoubt(0, 0, 1));
        checks.due("not in doubt, the row alone", false, x.isInDoubt(0, 0, 0));
        x.smudge(0, 0, 2);
        checks.due("with a smudged cell it is not wrong", 0, x.wrongRows(0));
        checks.due("its fault is not 0", 8, x.rowFault(0, 0));
        checks.due("in doubt, it is smudged", true, x.isInDoubt(0, 0, 2));
        checks.due("not in doubt then", false, x.isInDoubt(0, 0, 1));
        checks.due("the column is wrong still", 1, x.wrongColumns(0));
    }

    private static void testMending() {
        ScrollChecks x = Made.sealedWith("123", "456");
        x.write(0, 1, 1, 9);
        checks.due("sign 9 and fault 6", 11, x.mend(0));
        checks.due("without the ten", 5, x.signAt(0, 1, 1));
        x.slip(0, 0, 0, 1);
        x.smudge(0, 1, 2);
        checks.dueThrow("none may be smudged", REFUSED, () -> x.mend(0));
        x.fill(0);
        x.slip(0, 1, 0, 1);
        checks.dueThrow("just one row", REFUSED, () -> x.mend(0));
    }

    private static void testFillingIn() {
        ScrollChecks x = Made.sealedWith("111", "111", "111");
        Made.put(x, 0, "??1", "1??", "1?1");
        checks.due("again and again", 5, x.fill(0));
        checks.due("all", "111|3 111|3 111|3", Made.lines(x, 0));
        Made.put(x, 0, "?51", "?11", "111");
        checks.due("two rows with just one", 2, x.fill(0));
        checks.due("the first of them by its row, not by the column", "751|3 111|3 111|3", Made.lines(x, 0));
        Made.put(x, 0, "???", "???", "11?");
        checks.due("a row, and then no more", 1, x.fill(0));
        Made.put(x, 0, "??5", "??1", "111");
        checks.due("no row and no column", 0, x.fill(0));
        Made.put(x, 0, "??5", "111", "111");
        checks.due("or else the first such column, then the row", 2, x.fill(0));
        checks.due("the row gives the second", "175|3 111|3 111|3", Made.lines(x, 0));
    }

    private static void testCopies() {
        ScrollChecks x = Made.with("12", "34");
        x.copy(0);
        checks.due("not sealed", "12 34", Made.lines(x, 1));
        x.seal(0);
        x.slip(0, 1, 0, 1);
        x.smudge(0, 0, 1);
        x.copy(0);
        checks.due("the same signs, smudged cells and told sums", "1?|3 44|7!", Made.lines(x, 2));
        checks.due("of columns too", 4, x.columnSum(2, 0));
        checks.due("as many rows", 2, x.scrollOf(2, 0));
        checks.due("as many columns", 2, x.scrollOf(2, 1));
        x.write(2, 1, 1, 9);
        checks.due("each for itself", 4, x.signAt(0, 1, 1));
    }

    private static void testLines() {
        ScrollChecks x = Made.with("1?3", "456");
        checks.due("signs, and ? for a smudged one", "1?3", Made.line(x, 0, 0));
        x.write(0, 0, 1, 2);
        x.seal(0);
        checks.due("then | and its told sum", "123|6", Made.line(x, 0, 0));
        x.slip(0, 0, 0, 9);
        checks.due("and ! if it is wrong", "023|6!", Made.line(x, 0, 0));
        x.smudge(0, 0, 2);
        checks.due("not with a smudged one", "02?|6", Made.line(x, 0, 0));
    }

    private static void testTexts() {
        ScrollChecks x = Made.with("12", "34");
        String text = "s0;e0:1,1+9;m0;x0:0,0;f0;c0;w1:0,0=7";
        checks.due("each of the seven orders", 7, Made.read(x, text));
        checks.due("on the scroll", "12|3 34|7", Made.lines(x, 0));
        checks.due("on its copy", "72|3! 34|7", Made.lines(x, 1));
        checks.dueThrow("nothing of it, if one cannot be", REFUSED,
            () -> Made.read(x, "w0:0,0=9;x0:0,1;m1;s0;w9:0,0=1"));
        checks.due("as it was", "12|3 34|7", Made.lines(x, 0));
        checks.due("the first that cannot be decides: sealing", 2, x.refusal(false));
        checks.dueThrow("the first that cannot be decides: no scroll", BAD, () -> Made.read(x, "w9:0,0=1;x0:0,0;s0"));
        Made.type(x, "s0;s0;s0;s0;s0;s0;s0;s0;s0;s0;s0;s0;s0;s0;s0;s0;s0;s0;s0;s0s");
        checks.dueThrow("at most 60 characters", NO_STATE, () -> x.append(';'));
        checks.dueThrow("an error at the last", BAD, x::read);
        checks.due("its place", 59, x.errorPosition());
    }

    private static void testErrorPositions() {
        String[] texts = {"", "s", "s0;", "s0x", "w0:0,0=12", "w0;", "e0:0,0=1", "x0:0,0+1", "m-1", "q"};
        int[] due = {0, 1, 3, 2, 8, 2, 6, 6, 1, 0};
        for (int at = 0; at < texts.length; at++) {
            ScrollChecks x = Made.with("12", "34");
            String text = texts[at];
            checks.dueThrow("an error: " + text, BAD, () -> Made.read(x, text));
            checks.due("its place: " + text, due[at], x.errorPosition());
        }
    }

    private static void testReasons() {
        ScrollChecks x = Made.with("00", "00");
        checks.dueRefusal("4, the scroll", 4, 0, x, () -> x.fill(0));
        x.smudge(0, 1, 0);
        checks.dueRefusal("3, 10 times its row and its column", 3, 10, x, () -> x.slip(0, 1, 0, 1));
        x.smudge(0, 1, 1);
        checks.dueRefusal("2, how many", 2, 2, x, () -> x.seal(0));
        checks.dueRefusal("4 goes before 2", 4, 0, x, () -> x.mend(0));
        Made.put(x, 0, "00", "00");
        x.seal(0);
        checks.dueRefusal("5, 0", 5, 0, x, () -> x.mend(0));
        Made.put(x, 0, "12", "00");
        checks.dueRefusal("6, 10 times how many rows, and how many columns", 6, 12, x, () -> x.mend(0));
        x.smudge(0, 0, 0);
        checks.dueRefusal("2 goes before 6", 2, 1, x, () -> x.mend(0));
        while (x.account(0) < 5) {
            x.copy(0);
        }
        checks.dueRefusal("1, 5", 1, 5, x, () -> x.copy(0));
    }

    private static void testUndo() {
        ScrollChecks x = Made.sealedWith("0");
        x.slip(0, 0, 0, 1);
        x.mend(0);
        x.smudge(0, 0, 0);
        x.fill(0);
        x.copy(0);
        x.write(1, 0, 0, 0);
        checks.due("each is a change, and a write of the same too", 8, x.account(11));
        Made.read(x, "f0;f1");
        checks.due("the latest 8", 8, x.account(11));
        for (int left = 7; left >= 0; left--) {
            checks.due("undone", left, x.undo());
        }
        checks.dueThrow("the scroll was the ninth", NO_STATE, x::undo);
        checks.due("it stays, not sealed", "0", Made.lines(x, 0));
        x.save();
        x.seal(0);
        x.restore();
        checks.dueThrow("restore forgets all", NO_STATE, x::undo);
    }

    private static void testExceptions() {
        ScrollChecks x = Made.sealedWith("12");
        x.smudge(0, 0, 0);
        checks.dueThrow("no column goes first", NO_PLACE, () -> x.slip(0, 0, 2, 0));
        checks.dueThrow("a bad number goes next", BAD, () -> x.slip(0, 0, 0, 0));
        checks.dueThrow("the smudge goes last", REFUSED, () -> x.slip(0, 0, 0, 1));
        checks.due("all is as it was", "?2|3", Made.lines(x, 0));
        checks.due("the five changes ahead of them", 5, x.account(11));
        x.save();
        x.line(0, 0);
        x.append('s');
        x.undo();
        x.restore();
        checks.due("the line stays", '?', x.character(0));
        checks.due("the input stays", 1, x.account(10));
        checks.due("the reason stays", 3, x.refusal(false));
        checks.due("the error position stays", -1, x.errorPosition());
    }

    private static void testInDoubtToo() {
        ScrollChecks x = Made.sealedWith("00", "00");
        checks.due("none can be filled in", 0, x.fill(0));
        checks.due("a change also then", 3, x.account(11));
        x.slip(0, 0, 0, 1);
        x.mend(0);
        x.smudge(0, 0, 0);
        x.fill(0);
        x.copy(0);
        x.copy(1);
        checks.due("a copy of a copy tells the copy", 1, x.scrollOf(2, 3));
        checks.due("without signs that were mended", 0, x.scrollOf(1, 5));
        checks.due("without signs that were filled in", 0, x.scrollOf(1, 6));
        checks.due("scrolls that orders ahead have made", 3, Made.read(x, "c2;c3;w4:1,0=1"));
        checks.due("on the last of them", 1, x.signAt(4, 1, 0));
        Made.put(x, 0, "10", "90");
        checks.dueRefusal("two rows and no column", 6, 20, x, () -> x.mend(0));
        ScrollChecks two = Made.with("12", "34");
        two.scroll(2, 3);
        checks.dueThrow("as many rows, but not as many columns", BAD, () -> two.differ(0, 1));
        checks.dueThrow("nothing was refused", NONE, () -> two.refusal(true));
    }
}
