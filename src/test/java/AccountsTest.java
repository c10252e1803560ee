/** Promises 33 to 39: accounts, shares, undo and snapshot. */
public final class AccountsTest {
    private static final Class<IndexOutOfBoundsException> NO_PLACE = IndexOutOfBoundsException.class;
    private static final Class<IllegalArgumentException> BAD = IllegalArgumentException.class;
    private static final Class<IllegalStateException> NO_STATE = IllegalStateException.class;
    private static final int[] FAR = {Integer.MIN_VALUE, -6, -1, 1, 5, 6, Integer.MAX_VALUE};

    private static final Checks checks = new Checks();

    public static void main(String[] args) {
        testAccounts();
        testAccountsOutOfRange();
        testIsWell();
        testMeanSign();
        testDoubtShare();
        testUndo();
        testUndoOfEachChange();
        testUndoAfterFailures();
        testSaveAndRestore();
        testRestoreForgets();
        checks.finish();
    }

    private static void dueAccounts(String what, ScrollChecks x, int... due) {
        for (int account = 0; account < due.length; account++) {
            checks.due("P33 " + what + ", account " + account, due[account], x.account(account));
        }
    }

    private static void testAccounts() {
        ScrollChecks x = Made.with("12", "34");
        dueAccounts("one scroll", x, 1, 0, 0, 4, 0, 0, 0, 0, 0, 0, 0, 5);
        x.seal(0);
        x.copy(0);
        x.copy(1);
        dueAccounts("copies", x, 3, 3, 2, 12, 0, 0, 0, 0, 0, 0, 0, 8);
        x.slip(1, 0, 0, 4);
        x.slip(1, 1, 1, 4);
        x.smudge(2, 0, 1);
        dueAccounts("doubts", x, 3, 3, 2, 12, 1, 5, 2, 1, 0, 0, 0, 8);
        x.slip(1, 0, 0, 6);
        x.mend(1);
        x.fill(2);
        x.smudge(2, 0, 1);
        x.smudge(2, 0, 0);
        dueAccounts("mended and filled in", x, 3, 3, 2, 12, 2, 2, 3, 3, 1, 1, 0, 8);
        x.write(2, 0, 0, 0);
        x.scroll(1, 5);
        x.smudge(3, 0, 4);
        Made.type(x, "abc");
        dueAccounts("one more", x, 4, 3, 2, 17, 2, 2, 3, 4, 1, 1, 3, 8);
        x.copy(3);
        dueAccounts("a copy of smudges smudges none", x, 5, 3, 3, 22, 3, 3, 3, 4, 1, 1, 3, 8);
        x.undo();
        x.undo();
        x.undo();
        x.undo();
        x.undo();
        x.undo();
        dueAccounts("undone", x, 3, 3, 2, 12, 0, 0, 3, 1, 1, 1, 3, 2);
    }

    private static void testAccountsOutOfRange() {
        ScrollChecks x = new ScrollChecks();
        for (int what : new int[] {-1, 12, Integer.MIN_VALUE, Integer.MAX_VALUE}) {
            checks.dueThrow("P33 what " + what, BAD, () -> x.account(what));
        }
    }

    private static void testIsWell() {
        ScrollChecks x = new ScrollChecks();
        checks.due("P34 new", true, x.isWell());
        Made.add(x, "123", "456");
        checks.due("P34 not sealed", true, x.isWell());
        x.seal(0);
        checks.due("P34 sealed", true, x.isWell());
        x.slip(0, 1, 1, 1);
        checks.due("P34 wrong", true, x.isWell());
        x.mend(0);
        x.smudge(0, 0, 0);
        checks.due("P34 smudged", true, x.isWell());
        x.copy(0);
        x.fill(1);
        checks.due("P34 filled in", true, x.isWell());
        x.undo();
        x.undo();
        checks.due("P34 undone", true, x.isWell());
        x.save();
        x.fill(0);
        x.restore();
        checks.due("P34 restored", true, x.isWell());
    }

    private static void testMeanSign() {
        checks.due("P35 all", 3.5, Made.with("123", "456").meanSign(0));
        checks.due("P35 a third", 1.0 / 3.0, Made.with("100").meanSign(0));
        checks.due("P35 smudged ones do not count", 2.5, Made.with("1?", "?4").meanSign(0));
        checks.due("P35 noughts", 0.0, Made.with("0?").meanSign(0));
        checks.dueThrow("P35 all are smudged", ArithmeticException.class, () -> Made.with("??", "??").meanSign(0));
        ScrollChecks x = Made.with("99999999", "99999999", "99999999", "99999999", "99999999", "99999998");
        checks.due("P35 the most", 431.0 / 48.0, x.meanSign(0));
        for (int far : FAR) {
            checks.dueThrow("P35 no scroll " + far, NO_PLACE, () -> x.meanSign(far));
        }
    }

    private static void testDoubtShare() {
        checks.due("P36 none", 0.0f, Made.with("123", "456").doubtShare(0));
        checks.due("P36 all", 1.0f, Made.with("??").doubtShare(0));
        checks.due("P36 a third", 1.0f / 3.0f, Made.with("?12").doubtShare(0));
        ScrollChecks x = Made.sealedWith("123", "456");
        x.slip(0, 0, 0, 1);
        x.slip(0, 1, 1, 1);
        checks.due("P36 by rows and columns", 4.0f / 6.0f, x.doubtShare(0));
        for (int far : FAR) {
            checks.dueThrow("P36 no scroll " + far, NO_PLACE, () -> x.doubtShare(far));
        }
    }

    private static void testUndo() {
        ScrollChecks x = new ScrollChecks();
        checks.dueThrow("P37 nothing", NO_STATE, x::undo);
        x.scroll(1, 1);
        for (int sign = 1; sign <= 9; sign++) {
            x.write(0, 0, 0, sign);
        }
        checks.due("P37 eight at most", 8, x.account(11));
        for (int left = 7; left >= 0; left--) {
            checks.due("P37 left", left, x.undo());
            checks.due("P37 sign", left + 1, x.signAt(0, 0, 0));
        }
        checks.dueThrow("P37 nothing more", NO_STATE, x::undo);
        checks.due("P37 the ninth stays", 1, x.signAt(0, 0, 0));
        x.write(0, 0, 0, 5);
        x.write(0, 0, 0, 6);
        checks.due("P37 one", 1, x.undo());
        x.write(0, 0, 0, 7);
        checks.due("P37 the other branch", 1, x.undo());
        checks.due("P37 five", 5, x.signAt(0, 0, 0));
        checks.due("P37 the last", 0, x.undo());
        checks.due("P37 one again", 1, x.signAt(0, 0, 0));
    }

    private static void testUndoOfEachChange() {
        ScrollChecks x = Made.sealedWith("12", "34");
        x.write(0, 0, 0, 9);
        x.mend(0);
        x.slip(0, 1, 1, 5);
        x.copy(0);
        x.smudge(0, 1, 1);
        x.fill(0);
        x.seal(1);
        x.scroll(3, 3);
        checks.due("P37 eight", 8, x.account(11));
        x.undo();
        checks.due("P37 scroll", 2, x.account(0));
        x.undo();
        checks.due("P37 seal", "12|3 39|7!", Made.lines(x, 1));
        x.undo();
        checks.due("P37 fill", "12|3 3?|7", Made.lines(x, 0));
        checks.due("P37 fill, account", 0, x.account(9));
        checks.due("P37 fill, in it", 0, x.scrollOf(0, 6));
        x.undo();
        checks.due("P37 smudge", "12|3 39|7!", Made.lines(x, 0));
        checks.due("P37 smudge, account", 0, x.account(7));
        x.undo();
        checks.due("P37 copy", 1, x.account(0));
        checks.due("P37 copies", 0, x.account(2));
        x.undo();
        checks.due("P37 slip", "12|3 34|7", Made.lines(x, 0));
        checks.due("P37 slip, account", 0, x.account(6));
        x.undo();
        checks.due("P37 mend", "92|3! 34|7", Made.lines(x, 0));
        checks.due("P37 mend, account", 0, x.account(8));
        checks.due("P37 mend, in it", 0, x.scrollOf(0, 5));
        checks.due("P37 write, the last of the eight", 0, x.undo());
        checks.due("P37 write", "12|3 34|7", Made.lines(x, 0));
    }

    private static void testUndoAfterFailures() {
        ScrollChecks x = Made.with("1");
        for (int time = 0; time < 9; time++) {
            checks.dueThrow("P37 refused", UnsupportedOperationException.class, () -> x.fill(0));
            checks.dueThrow("P37 bad", BAD, () -> x.write(0, 0, 0, 10));
            checks.dueThrow("P37 a text that is refused", UnsupportedOperationException.class,
                () -> Made.read(x, "w0:0,0=5;m0"));
        }
        x.save();
        x.line(0, 0);
        x.doubts(0);
        checks.due("P37 changes alone count", 2, x.account(11));
        checks.due("P37 the write", 1, x.undo());
        checks.due("P37 before it", 0, x.signAt(0, 0, 0));
    }

    private static void testSaveAndRestore() {
        ScrollChecks x = new ScrollChecks();
        checks.dueThrow("P39 no snapshot", NO_STATE, x::restore);
        checks.due("P38 of nothing", 0, x.save());
        Made.add(x, "12", "34");
        x.seal(0);
        checks.due("P39 nothing again", 0, x.restore());
        checks.due("P39 no scroll", 0, x.account(0));
        Made.add(x, "12", "34");
        x.seal(0);
        x.slip(0, 0, 0, 1);
        x.mend(0);
        x.smudge(0, 1, 1);
        x.fill(0);
        x.smudge(0, 0, 1);
        x.copy(0);
        checks.due("P38 in place of the earlier one", 2, x.save());
        checks.due("P38 changes stay", 8, x.account(11));
        x.fill(0);
        x.slip(0, 0, 0, 3);
        x.mend(0);
        x.write(1, 0, 0, 7);
        x.seal(0);
        x.scroll(6, 8);
        checks.due("P39 scrolls", 2, x.restore());
        checks.due("P39 the first", "1?|3 34|7", Made.lines(x, 0));
        checks.due("P39 the second", "1?|3 34|7", Made.lines(x, 1));
        dueAccounts("restored", x, 2, 2, 1, 8, 2, 2, 1, 2, 1, 1, 0, 0);
        checks.due("P39 mended", 1, x.scrollOf(0, 5));
        checks.due("P39 filled in", 1, x.scrollOf(0, 6));
        checks.due("P39 of which it is a copy", 0, x.scrollOf(1, 3));
        x.fill(1);
        checks.due("P39 the snapshot stays", 2, x.restore());
        checks.due("P39 the second again", "1?|3 34|7", Made.lines(x, 1));
    }

    private static void testRestoreForgets() {
        ScrollChecks x = Made.with("12", "34");
        x.save();
        x.write(0, 0, 0, 9);
        x.restore();
        checks.due("P39 no change is left", 0, x.account(11));
        checks.dueThrow("P37 none to undo", NO_STATE, x::undo);
        x.write(0, 0, 0, 8);
        checks.due("P37 a change behind restore", 0, x.undo());
        checks.due("P37 undone to the snapshot", "12 34", Made.lines(x, 0));
        x.write(0, 0, 0, 7);
        x.save();
        x.undo();
        checks.due("P38 the snapshot is not undone", 1, x.restore());
        checks.due("P39 as it was saved", "72 34", Made.lines(x, 0));
    }
}
