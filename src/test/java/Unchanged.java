/** Calls that leave the state as it was: compares an object on which the call was made with one without it. */
final class Unchanged {
    /** Makes an object, the same each time. */
    interface Maker {
        ScrollChecks make();
    }

    /** A call on an object, for its answer. */
    interface Use {
        Object on(ScrollChecks x);
    }

    /** A call that names a scroll. */
    interface UseOfScroll {
        Object on(ScrollChecks x, int scroll);
    }

    /** A call that names a scroll, and a row or a column of it. */
    interface UseOfBand {
        Object on(ScrollChecks x, int scroll, int band);
    }

    /** A call that names a cell. */
    interface UseOfCell {
        Object on(ScrollChecks x, int scroll, int row, int column);
    }

    // Made.used() has three scrolls, numbers 0, 1 and 2; the first has 2 rows and 3 columns. The powers of two would
    // wrap around to cells that are there.
    private static final int[] NO_SCROLL = {-1, 3, 4, 5, 6, 1 << 29, Integer.MIN_VALUE, Integer.MAX_VALUE};
    private static final int[] NO_ROW = {-1, 2, 3, 5, 6, 1 << 28, 1 << 29, -(1 << 29), Integer.MIN_VALUE,
        Integer.MAX_VALUE};
    private static final int[] NO_COLUMN = {-1, 3, 4, 5, 7, 8, 1 << 28, 1 << 29, -(1 << 29), Integer.MIN_VALUE,
        Integer.MAX_VALUE};

    private static final int DEEPEST_UNDO = 8;

    private final Checks checks;
    private final Maker maker;

    Unchanged(Checks checks, Maker maker) {
        this.checks = checks;
        this.maker = maker;
    }

    /** A call that throws and changes nothing at all. */
    void dueThrow(String what, Class<? extends RuntimeException> due, Use use) {
        checks.dueThrow(what, due, () -> use.on(maker.make()));
        dueSame(what, use, true, true);
    }

    /** A call that is refused and changes nothing but the reason. */
    void dueRefusal(String what, int reason, int detail, Use use) {
        ScrollChecks x = maker.make();
        checks.dueRefusal(what, reason, detail, x, () -> use.on(x));
        dueSame(what, use, false, true);
    }

    /** A text that is not carried out changes nothing but the error position, and empties the input. */
    void dueNoRead(String what, String text, int errorPosition, Class<? extends RuntimeException> due) {
        ScrollChecks x = maker.make();
        Made.type(x, text);
        checks.dueThrow(what, due, x::read);
        checks.due(what + ", error position", errorPosition, x.errorPosition());
        checks.due(what + ", input behind it", 0, x.account(10));
        dueSame(what, y -> Made.read(y, text), true, false);
    }

    /** A text that is refused changes nothing but the reason and the error position, and empties the input. */
    void dueRefusedRead(String what, String text, int reason, int detail) {
        ScrollChecks x = maker.make();
        Made.type(x, text);
        checks.dueRefusal(what, reason, detail, x, x::read);
        checks.due(what + ", error position", -1, x.errorPosition());
        checks.due(what + ", input behind it", 0, x.account(10));
        dueSame(what, y -> Made.read(y, text), false, false);
    }

    /** A call that answers and changes nothing at all. */
    void dueAnswer(String what, Object due, Use use) {
        checks.due(what, due, use.on(maker.make()));
        dueSame(what, use, true, true);
    }

    // Places that are not there, by Made.used()

    void dueNoScroll(String what, UseOfScroll use) {
        for (int scroll : NO_SCROLL) {
            dueNoPlace(what + " of scroll " + scroll, x -> use.on(x, scroll));
        }
    }

    void dueNoRow(String what, UseOfBand use) {
        dueNoScroll(what, (x, scroll) -> use.on(x, scroll, 0));
        for (int row : NO_ROW) {
            dueNoPlace(what + " of row " + row, x -> use.on(x, 0, row));
        }
    }

    void dueNoColumn(String what, UseOfBand use) {
        dueNoScroll(what, (x, scroll) -> use.on(x, scroll, 0));
        for (int column : NO_COLUMN) {
            dueNoPlace(what + " of column " + column, x -> use.on(x, 0, column));
        }
    }

    void dueNoCell(String what, UseOfCell use) {
        dueNoRow(what, (x, scroll, row) -> use.on(x, scroll, row, 0));
        for (int column : NO_COLUMN) {
            dueNoPlace(what + " of column " + column, x -> use.on(x, 0, 0, column));
            dueNoPlace(what + " of column " + column + " in the last row", x -> use.on(x, 0, 1, column));
        }
    }

    private void dueNoPlace(String what, Use use) {
        dueThrow(what, IndexOutOfBoundsException.class, use);
    }

    // What is the same

    /** Each look takes a new object, so that none is used for more calls than the document promises. */
    private void dueSame(String what, Use use, boolean withReason, boolean withText) {
        for (int depth = 0; depth <= DEEPEST_UNDO; depth++) {
            int times = depth;
            dueSame(what + ", undone " + depth, use, x -> undone(x, times));
        }
        dueSame(what + ", line", use, Unchanged::lineOf);
        dueSame(what + ", restored", use, Unchanged::restored);
        if (withReason) {
            dueSame(what + ", reason", use, Unchanged::reasonOf);
        }
        if (withText) {
            dueSame(what + ", text", use, Unchanged::textOf);
        }
    }

    private void dueSame(String what, Use use, Use look) {
        ScrollChecks used = maker.make();
        answer(() -> use.on(used));
        checks.due(what, look.on(maker.make()), look.on(used));
    }

    private static String answer(Checks.Call call) {
        try {
            return call.make().toString();
        } catch (RuntimeException thrown) {
            return thrown.getClass().getSimpleName();
        }
    }

    private static String undone(ScrollChecks x, int times) {
        StringBuilder all = new StringBuilder();
        for (int time = 0; time < times; time++) {
            all.append(answer(x::undo)).append(' ');
        }
        return all.append(stateOf(x)).toString();
    }

    private static String restored(ScrollChecks x) {
        return answer(x::restore) + " " + stateOf(x);
    }

    private static String reasonOf(ScrollChecks x) {
        return answer(() -> x.refusal(false)) + " " + answer(() -> x.refusal(true));
    }

    /** The last error, how long the input is, and what it does when it is read. */
    private static String textOf(ScrollChecks x) {
        StringBuilder all = new StringBuilder();
        all.append(x.errorPosition()).append(' ').append(x.account(10)).append(' ');
        all.append(answer(x::read)).append(' ').append(x.errorPosition()).append(' ');
        return all.append(stateOf(x)).toString();
    }

    private static String lineOf(ScrollChecks x) {
        StringBuilder all = new StringBuilder();
        for (int index = 0; index < 12; index++) {
            int at = index;
            all.append(answer(() -> x.character(at)));
        }
        return all.toString();
    }

    /** All that changes can change. */
    private static String stateOf(ScrollChecks x) {
        StringBuilder all = new StringBuilder();
        int scrolls = x.account(0);
        for (int scroll = 0; scroll < scrolls; scroll++) {
            all.append(Made.lines(x, scroll)).append(" by columns");
            for (int column = 0; column < x.scrollOf(scroll, 1); column++) {
                int number = scroll;
                int at = column;
                all.append(' ').append(answer(() -> x.columnSum(number, at)));
            }
            all.append(" numbers");
            for (int what = 0; what <= 6; what++) {
                all.append(' ').append(x.scrollOf(scroll, what));
            }
            all.append("; ");
        }
        for (int what = 0; what <= 11; what++) {
            all.append(what == 10 ? "" : " " + x.account(what));
        }
        return all.toString();
    }
}
