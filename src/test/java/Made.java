/** Makes objects for tests and reads what they show. */
final class Made {
    private Made() {
    }

    /** An object with one scroll; each text has the signs of a row, "?" for a smudged one. */
    static ScrollChecks with(String... rows) {
        ScrollChecks checks = new ScrollChecks();
        add(checks, rows);
        return checks;
    }

    static ScrollChecks sealedWith(String... rows) {
        ScrollChecks checks = with(rows);
        checks.seal(0);
        return checks;
    }

    static int add(ScrollChecks checks, String... rows) {
        int scroll = checks.scroll(rows.length, rows[0].length());
        put(checks, scroll, rows);
        return scroll;
    }

    /** Writes only cells that stand otherwise, so that the told sums of a sealed scroll stay. */
    static void put(ScrollChecks checks, int scroll, String... rows) {
        for (int row = 0; row < rows.length; row++) {
            for (int column = 0; column < rows[row].length(); column++) {
                char due = rows[row].charAt(column);
                int sign = checks.signAt(scroll, row, column);
                if (due == '?' && sign != -1) {
                    checks.smudge(scroll, row, column);
                } else if (due != '?' && sign != due - '0') {
                    checks.write(scroll, row, column, due - '0');
                }
            }
        }
    }

    /** The lines of all rows of a scroll, with a blank between two. */
    static String lines(ScrollChecks checks, int scroll) {
        StringBuilder all = new StringBuilder();
        int rows = checks.scrollOf(scroll, 0);
        for (int row = 0; row < rows; row++) {
            all.append(row == 0 ? "" : " ").append(line(checks, scroll, row));
        }
        return all.toString();
    }

    static String line(ScrollChecks checks, int scroll, int row) {
        int length = checks.line(scroll, row);
        StringBuilder line = new StringBuilder();
        for (int index = 0; index < length; index++) {
            line.append(checks.character(index));
        }
        return line.toString();
    }

    static void type(ScrollChecks checks, String text) {
        for (int index = 0; index < text.length(); index++) {
            checks.append(text.charAt(index));
        }
    }

    static int read(ScrollChecks checks, String text) {
        type(checks, text);
        return checks.read();
    }
}
