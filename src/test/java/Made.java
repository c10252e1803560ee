/** Makes objects for tests and reads what they show. */
final class Made {
    private Made() {
    }

    /** An object with one scroll; each text has the signs of a row, "?" for a smudged one. */
    static ScrollChecks with(String... rows) {
        ScrollChecks checks = new ScrollChecks();
        add(checks, rows);
        return checks;
    }

    static ScrollChecks sealedWith(String... rows) {
        ScrollChecks checks = with(rows);
        checks.seal(0);
        return checks;
    }

    /**
     * An object in which all is in use but the input: three scrolls (the first sealed and wrong in one cell, the second
     * a copy with smudges, the third not sealed), a snapshot, eight changes and more, a line, an error and a reason.
     */
    static ScrollChecks usedWithoutText() {
        ScrollChecks x = sealedWith("123", "456");
        x.save();
        x.slip(0, 0, 0, 3);
        x.mend(0);
        x.copy(0);
        x.smudge(1, 1, 2);
        x.fill(1);
        x.smudge(1, 0, 0);
        x.smudge(1, 1, 2);
        x.scroll(1, 2);
        x.slip(0, 1, 1, 4);
        x.line(0, 1);
        thrown(() -> x.seal(1));
        thrown(() -> read(x, "s0;s"));
        return x;
    }

    /** The same with a text in the input. */
    static ScrollChecks used() {
        ScrollChecks x = usedWithoutText();
        type(x, "x0:0,1;s2");
        return x;
    }

    /** The same with five scrolls. */
    static ScrollChecks usedAndFull() {
        ScrollChecks x = used();
        x.copy(1);
        x.scroll(2, 2);
        return x;
    }

    private static void thrown(Checks.Call call) {
        try {
            call.make();
        } catch (RuntimeException meant) {
            return;
        }
        throw new AssertionError("a call that is made to throw answered");
    }

    static int add(ScrollChecks checks, String... rows) {
        int scroll = checks.scroll(rows.length, rows[0].length());
        put(checks, scroll, rows);
        return scroll;
    }

    /** Writes only cells that stand otherwise, so that the told sums of a sealed scroll stay. */
    static void put(ScrollChecks checks, int scroll, String... rows) {
        for (int row = 0; row < rows.length; row++) {
            for (int column = 0; column < rows[row].length(); column++) {
                char due = rows[row].charAt(column);
                int sign = checks.signAt(scroll, row, column);
                if (due == '?' && sign != -1) {
                    checks.smudge(scroll, row, column);
                } else if (due != '?' && sign != due - '0') {
                    checks.write(scroll, row, column, due - '0');
                }
            }
        }
    }

    /** The lines of all rows of a scroll, with a blank between two. */
    static String lines(ScrollChecks checks, int scroll) {
        StringBuilder all = new StringBuilder();
        int rows = checks.scrollOf(scroll, 0);
        for (int row = 0; row < rows; row++) {
            all.append(row == 0 ? "" : " ").append(line(checks, scroll, row));
        }
        return all.toString();
    }

    static String line(ScrollChecks checks, int scroll, int row) {
        int length = checks.line(scroll, row);
        StringBuilder line = new StringBuilder();
        for (int index = 0; index < length; index++) {
            line.append(checks.character(index));
        }
        return line.toString();
    }

    static void type(ScrollChecks checks, String text) {
        for (int index = 0; index < text.length(); index++) {
            checks.append(text.charAt(index));
        }
    }

    static int read(ScrollChecks checks, String text) {
        type(checks, text);
        return checks.read();
    }
}
