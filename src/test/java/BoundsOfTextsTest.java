import java.util.NoSuchElementException;

/** Promises 29 to 32 at their bounds: the input, texts, error positions, reasons. */
public final class BoundsOfTextsTest {
    private static final Class<IllegalArgumentException> BAD = IllegalArgumentException.class;
    private static final Class<IllegalStateException> FULL = IllegalStateException.class;
    private static final Class<NoSuchElementException> NONE = NoSuchElementException.class;

    // One of each kind; each can be carried out by Made.usedWithoutText().
    private static final String[] ORDERS = {"w1:0,2=9", "e0:1,0+9", "x0:0,1", "s0", "c1", "m0", "f1"};
    private static final String SIXTY = "w0:0,0=1;w0:0,0=2;w0:0,0=3;w0:0,0=4;w0:0,0=5;x0:1,1;s1;s1;f0";

    private static final Checks checks = new Checks();
    private static final Unchanged unchanged = new Unchanged(checks, Made::usedWithoutText);
    private static final Unchanged unchangedWhenFull = new Unchanged(checks, () -> {
        ScrollChecks x = Made.usedWithoutText();
        x.copy(1);
        x.scroll(2, 2);
        return x;
    });

    public static void main(String[] args) {
        p29HasAtMost60Characters();
        p29TakesAnyCharacter();
        p29IsNeitherUndoneNorSaved();
        p30OneOrderAndTwenty();
        p30EachOrder();
        p30AnEmptyTextIsAnError();
        p30ATextThatEndsTooEarly();
        p30ACharacterThatCannotContinue();
        p30EachNumberIsOneDigit();
        p30BehindASemicolon();
        p30AnErrorGoesAheadOfOrders();
        p30AnOrderWithAnotherException();
        p30AnOrderThatIsRefused();
        p30TheFirstOrderThatCannotBeDecides();
        p30OrdersOnScrollsOfOrdersAhead();
        p30IsOneChange();
        p30IsEmptyAfterwards();
        p31ThePositionOfTheLatestText();
        p31IsNeitherUndoneNorSaved();
        p32NothingWasRefused();
        p32TheLatestReasonAndDetail();
        p32IsKeptByRefusalsAlone();
        p32IsNeitherUndoneNorSaved();
        checks.finish();
    }

    // Promise 29

    private static void p29HasAtMost60Characters() {
        ScrollChecks x = Made.usedWithoutText();
        for (int length = 1; length <= 60; length++) {
            checks.due("P29 length", length, x.append(SIXTY.charAt(length - 1)));
        }
        checks.dueThrow("P29 a 61st", FULL, () -> x.append(';'));
        checks.dueThrow("P29 a 61st again", FULL, () -> x.append('s'));
        Unchanged sixty = new Unchanged(checks, () -> {
            ScrollChecks y = Made.sealedWith("12", "34");
            y.copy(0);
            Made.type(y, SIXTY);
            return y;
        });
        sixty.dueThrow("P29 a 61st changes nothing", FULL, y -> y.append('1'));
        sixty.dueThrow("P29 a 61st semicolon changes nothing", FULL, y -> y.append(';'));
        ScrollChecks read = sixty(SIXTY);
        checks.due("P30 sixty characters are read", 9, read.read());
        checks.due("P29 the first behind it", 1, read.append('s'));
    }

    private static ScrollChecks sixty(String text) {
        ScrollChecks x = Made.sealedWith("12", "34");
        x.copy(0);
        Made.type(x, text);
        return x;
    }

    private static void p29TakesAnyCharacter() {
        ScrollChecks x = new ScrollChecks();
        char[] any = {(char) 0, '\n', ' ', (char) 127, (char) 128, (char) 255, (char) 256, (char) 0xffff};
        for (int at = 0; at < any.length; at++) {
            checks.due("P29 character " + (int) any[at], at + 1, x.append(any[at]));
        }
        checks.dueThrow("P30 the first is no order", BAD, x::read);
        checks.due("P31 the first is no order", 0, x.errorPosition());
    }

    private static void p29IsNeitherUndoneNorSaved() {
        ScrollChecks x = Made.used();
        x.undo();
        checks.due("P29 not undone", 10, x.append(';'));
        x.restore();
        checks.due("P29 not restored", 11, x.append('s'));
        x.save();
        x.append('0');
        x.restore();
        checks.due("P29 not saved", 12, x.account(10));
        checks.dueThrow("P30 s2 names no scroll of the snapshot", BAD, x::read);
        checks.due("P31 no error", -1, x.errorPosition());
    }

    // Promise 30

    private static void p30OneOrderAndTwenty() {
        checks.due("P30 one order", 1, Made.read(Made.usedWithoutText(), "s0"));
        StringBuilder text = new StringBuilder("s0");
        for (int orders = 2; orders <= 20; orders++) {
            text.append(";s0");
            checks.due("P30 orders " + orders, orders, Made.read(Made.usedWithoutText(), text.toString()));
        }
        unchanged.dueNoRead("P30 twenty and a semicolon", text + ";", 60, BAD);
    }

    private static void p30EachOrder() {
        ScrollChecks x = Made.usedWithoutText();
        for (String order : ORDERS) {
            ScrollChecks alone = Made.usedWithoutText();
            checks.due("P30 " + order, 1, Made.read(alone, order));
            checks.due("P31 " + order, -1, alone.errorPosition());
            checks.due("P30 empty behind " + order, 0, alone.account(10));
        }
        Made.read(x, "w1:0,2=9");
        checks.due("P30 w", 9, x.signAt(1, 0, 2));
        Made.read(x, "e0:1,0+9");
        checks.due("P30 e", 3, x.signAt(0, 1, 0));
        Made.read(x, "x0:0,1");
        checks.due("P30 x", -1, x.signAt(0, 0, 1));
        Made.read(x, "s2");
        checks.due("P30 s", 1, x.scrollOf(2, 2));
        Made.read(x, "c1");
        checks.due("P30 c", 1, x.scrollOf(3, 3));
        Made.read(x, "f0");
        checks.due("P30 f", 2, x.signAt(0, 0, 1));
        Made.read(x, "e2:0,1+3");
        Made.read(x, "m2");
        checks.due("P30 m", 0, x.signAt(2, 0, 1));
    }

    private static void p30AnEmptyTextIsAnError() {
        unchanged.dueNoRead("P30 an empty text", "", 0, BAD);
        unchanged.dueNoRead("P30 a semicolon alone", ";", 0, BAD);
    }

    private static void p30ATextThatEndsTooEarly() {
        for (String order : ORDERS) {
            for (int length = 0; length < order.length(); length++) {
                String start = order.substring(0, length);
                unchanged.dueNoRead("P30 " + start, start, length, BAD);
                unchanged.dueNoRead("P30 s0;" + start, "s0;" + start, 3 + length, BAD);
            }
        }
    }

    private static void p30ACharacterThatCannotContinue() {
        String others = "/:0;=+,wexscmfWq \u0000\u00ff\u0660";
        for (String order : ORDERS) {
            for (int at = 0; at <= order.length(); at++) {
                for (int other = 0; other < others.length(); other++) {
                    char c = others.charAt(other);
                    if (!canStand(order, at, c)) {
                        String text = order.substring(0, at) + c + (at < order.length() ? order.substring(at + 1) : "");
                        dueErrorAt(text, at);
                        dueErrorAt("s0;" + text, 3 + at);
                    }
                }
            }
        }
    }

    /** Whether a character may stand at this place of an order, or behind it. */
    private static boolean canStand(String order, int at, char c) {
        if (at == order.length()) {
            return c == ';';
        }
        if (at == 0) {
            return "wexscmf".indexOf(c) >= 0;
        }
        boolean isDigit = c >= '0' && c <= '9';
        return at % 2 == 1 ? isDigit : c == order.charAt(at);
    }

    private static void dueErrorAt(String text, int due) {
        ScrollChecks x = Made.sealedWith("12", "34");
        checks.dueThrow("P30 " + text, BAD, () -> Made.read(x, text));
        checks.due("P31 " + text, due, x.errorPosition());
        checks.due("P30 empty behind " + text, 0, x.account(10));
        checks.due("P30 nothing of " + text, "12|3 34|7", Made.lines(x, 0));
        checks.due("P30 no change by " + text, 6, x.account(11));
    }

    private static void p30EachNumberIsOneDigit() {
        for (char digit = '0'; digit <= '9'; digit++) {
            ScrollChecks x = Made.with("5");
            checks.due("P30 sign " + digit, 1, Made.read(x, "w0:0,0=" + digit));
            checks.due("P30 written", digit - '0', x.signAt(0, 0, 0));
        }
        for (char none : new char[] {'/', ':', '-', ' ', 'a'}) {
            dueErrorAt("w0:0,0=" + none, 7);
            dueErrorAt("e0:0,0+" + none, 7);
            dueErrorAt("x0:0," + none, 5);
            dueErrorAt("x0:" + none + ",0", 3);
            dueErrorAt("s" + none, 1);
        }
        dueErrorAt("w0:0,0=10", 8);
        dueErrorAt("x0:0,00", 6);
        dueErrorAt("x0:00,0", 4);
        dueErrorAt("x00:0,0", 2);
        dueErrorAt("s00", 2);
    }

    private static void p30BehindASemicolon() {
        unchanged.dueNoRead("P30 nothing behind it", "s0;", 3, BAD);
        unchanged.dueNoRead("P30 another behind it", "s0;;s0", 3, BAD);
        unchanged.dueNoRead("P30 ahead of the first order", ";s0", 0, BAD);
        unchanged.dueNoRead("P30 none between two orders", "s0s0", 2, BAD);
        unchanged.dueNoRead("P30 a blank behind it", "s0; s0", 3, BAD);
        unchanged.dueNoRead("P30 a comma for it", "s0,s0", 2, BAD);
    }

    private static void p30AnErrorGoesAheadOfOrders() {
        unchanged.dueNoRead("P30 an error behind an order that can be", "w0:0,0=9;s", 10, BAD);
        unchanged.dueNoRead("P30 an error behind one that is refused", "m2;s0;q", 6, BAD);
        unchanged.dueNoRead("P30 an error behind one that names no scroll", "s9;q", 3, BAD);
    }

    private static void p30AnOrderWithAnotherException() {
        // The scroll just behind the last, the row and the column just behind the last, and the highest digit.
        String[] texts = {"w3:0,0=1", "w9:0,0=1", "w0:2,0=1", "w0:9,0=1", "w0:0,3=1", "w0:0,9=1",
            "e3:0,0+1", "e0:2,0+1", "e0:0,3+1", "e0:0,0+0", "e1:0,0+0", "x3:0,0", "x0:2,0", "x0:0,3", "x2:1,0",
            "x2:0,2", "s3", "s9", "c3", "c9", "m3", "m9", "f3", "f9"};
        for (String text : texts) {
            unchanged.dueNoRead("P30 " + text, text, -1, BAD);
            unchanged.dueNoRead("P30 orders and " + text, "s0;w0:0,0=9;m0;f1;" + text, -1, BAD);
        }
        unchangedWhenFull.dueNoRead("P30 no scroll goes ahead of five scrolls", "c5", -1, BAD);
    }

    private static void p30AnOrderThatIsRefused() {
        unchanged.dueRefusedRead("P30 s", "s1", 2, 2);
        unchanged.dueRefusedRead("P30 e", "e1:0,0+1", 3, 0);
        unchanged.dueRefusedRead("P30 x", "x1:1,2", 3, 12);
        unchanged.dueRefusedRead("P30 m, not sealed", "m2", 4, 2);
        unchanged.dueRefusedRead("P30 m, smudged", "m1", 2, 2);
        unchanged.dueRefusedRead("P30 m, nothing wrong", "m0;m0", 5, 0);
        unchanged.dueRefusedRead("P30 m, two rows and two columns", "e0:0,0+1;m0", 6, 22);
        unchanged.dueRefusedRead("P30 f", "f2", 4, 2);
        unchanged.dueRefusedRead("P30 c, the third of them", "c0;c0;c0", 1, 5);
        unchangedWhenFull.dueRefusedRead("P30 c", "c0", 1, 5);
        String all = "m0;e0:0,0+1;x0:1,1;f0;c0;w3:0,0=0;s2;f1;x2:0,0;s2";
        unchanged.dueRefusedRead("P30 all that can be is taken back", all, 2, 1);
    }

    private static void p30TheFirstOrderThatCannotBeDecides() {
        unchanged.dueRefusedRead("P30 refused ahead of no scroll", "m2;s9", 4, 2);
        unchanged.dueNoRead("P30 no scroll ahead of refused", "s9;m2", -1, BAD);
        unchanged.dueRefusedRead("P30 refused ahead of a number out of range", "s1;e0:0,0+0", 2, 2);
        unchanged.dueNoRead("P30 a number out of range ahead of refused", "e0:0,0+0;s1", -1, BAD);
        unchanged.dueRefusedRead("P30 the first of two refusals", "f2;s1", 4, 2);
        unchanged.dueRefusedRead("P30 the first of the other two", "s1;f2", 2, 2);
    }

    private static void p30OrdersOnScrollsOfOrdersAhead() {
        ScrollChecks x = Made.usedWithoutText();
        checks.due("P30 a copy and a copy of it", 5, Made.read(x, "c0;c3;w4:0,0=9;x3:1,2;f3"));
        checks.due("P30 the copy of the copy", 9, x.signAt(4, 0, 0));
        checks.due("P30 tells the copy", 3, x.scrollOf(4, 3));
        unchanged.dueNoRead("P30 a scroll of an order behind", "s3;c0", -1, BAD);
        unchanged.dueNoRead("P30 not made yet", "c0;s4;c0", -1, BAD);
        ScrollChecks refused = Made.usedWithoutText();
        checks.dueRefusal("P30 a smudge of an order ahead", 3, 1, refused, () -> Made.read(refused, "x0:0,1;x0:0,1"));
    }

    private static void p30IsOneChange() {
        ScrollChecks x = Made.with("1");
        checks.due("P30 three orders", 3, Made.read(x, "w0:0,0=2;s0;c0"));
        checks.due("P37 as one change", 3, x.account(11));
        checks.due("P37 undone", 2, x.undo());
        checks.due("P37 all of it", "1 1 0", x.signAt(0, 0, 0) + " " + x.account(0) + " " + x.scrollOf(0, 2));
        ScrollChecks same = Made.with("1");
        Made.read(same, "w0:0,0=1");
        checks.due("P30 a change also if nothing is different", 3, same.account(11));
        for (int time = 0; time < 7; time++) {
            Made.read(same, "w0:0,0=2");
        }
        checks.due("P37 eight at most", 8, same.account(11));
        for (int time = 0; time < 8; time++) {
            same.undo();
        }
        checks.due("P37 the first of all texts is undone too", 1, same.signAt(0, 0, 0));
        checks.due("P37 none is left", 0, same.account(11));
    }

    private static void p30IsEmptyAfterwards() {
        String[] texts = {"s0", "s0;", "s9", "m2", ""};
        for (String text : texts) {
            ScrollChecks x = Made.usedWithoutText();
            Made.type(x, text);
            try {
                x.read();
            } catch (IllegalArgumentException | UnsupportedOperationException meant) {
                checks.due("P30 only s0 can be carried out", false, text.equals("s0"));
            }
            checks.due("P30 empty behind " + text, 0, x.account(10));
            checks.dueThrow("P30 nothing to read behind " + text, BAD, x::read);
            checks.due("P31 nothing to read behind " + text, 0, x.errorPosition());
        }
    }

    // Promise 31

    private static void p31ThePositionOfTheLatestText() {
        ScrollChecks x = new ScrollChecks();
        checks.due("P31 not called", -1, x.errorPosition());
        Made.type(x, "s0;");
        checks.due("P31 not called yet", -1, x.errorPosition());
        checks.dueThrow("P30 an error", BAD, x::read);
        checks.due("P31 its length", 3, x.errorPosition());
        Made.type(x, "q");
        checks.due("P31 still that of the text that was read", 3, x.errorPosition());
        checks.dueThrow("P30 another error", BAD, x::read);
        checks.due("P31 the latest", 0, x.errorPosition());
        checks.dueThrow("P30 no scroll", BAD, () -> Made.read(x, "s0"));
        checks.due("P31 no error, though it throws", -1, x.errorPosition());
        checks.dueThrow("P30 an error again", BAD, () -> Made.read(x, "s"));
        x.scroll(1, 1);
        checks.due("P31 stays behind a change", 1, x.errorPosition());
        checks.due("P30 it is carried out", 1, Made.read(x, "s0"));
        checks.due("P31 no error then", -1, x.errorPosition());
        checks.dueThrow("P30 an error once more", BAD, () -> Made.read(x, "s"));
        checks.dueThrow("P30 refused", UnsupportedOperationException.class, () -> Made.read(x, "m0"));
        checks.due("P31 no error, though it is refused", -1, x.errorPosition());
    }

    private static void p31IsNeitherUndoneNorSaved() {
        ScrollChecks x = Made.used();
        x.save();
        checks.dueThrow("P30 an error", BAD, () -> Made.read(x, "s0;s00"));
        int due = "x0:0,1;s2".length();
        checks.due("P31 the position", due, x.errorPosition());
        x.undo();
        checks.due("P31 not undone", due, x.errorPosition());
        x.restore();
        checks.due("P31 not restored", due, x.errorPosition());
    }

    // Promise 32

    private static void p32NothingWasRefused() {
        Unchanged fresh = new Unchanged(checks, () -> Made.with("12"));
        fresh.dueThrow("P32 no reason", NONE, x -> x.refusal(false));
        fresh.dueThrow("P32 no detail", NONE, x -> x.refusal(true));
    }

    private static void p32TheLatestReasonAndDetail() {
        unchanged.dueAnswer("P32 the reason", 2, x -> x.refusal(false));
        unchanged.dueAnswer("P32 the detail", 2, x -> x.refusal(true));
        ScrollChecks x = Made.with("12", "34");
        checks.dueRefusal("P32 not sealed", 4, 0, x, () -> x.mend(0));
        x.seal(0);
        checks.dueRefusal("P32 nothing is wrong, a detail of 0", 5, 0, x, () -> x.mend(0));
        Made.put(x, 0, "21", "34");
        checks.dueRefusal("P32 two columns", 6, 2, x, () -> x.mend(0));
        x.smudge(0, 1, 1);
        checks.dueRefusal("P32 a smudged one", 2, 1, x, () -> x.mend(0));
        checks.dueRefusal("P32 the smudged one", 3, 11, x, () -> x.slip(0, 1, 1, 1));
        checks.dueRefusal("P32 it is smudged again", 3, 11, x, () -> x.smudge(0, 1, 1));
        checks.dueRefusal("P32 sealed with it", 2, 1, x, () -> x.seal(0));
        for (int copy = 0; copy < 4; copy++) {
            x.copy(0);
        }
        checks.dueRefusal("P32 five scrolls", 1, 5, x, () -> x.scroll(1, 1));
    }

    private static void p32IsKeptByRefusalsAlone() {
        ScrollChecks x = Made.with("1?");
        checks.dueThrow("P20 would be refused", NONE, () -> x.wouldMend(0));
        checks.dueThrow("P21 cannot", NONE, () -> x.mendAgain(0));
        checks.dueThrow("P23 cannot", NONE, () -> x.wouldFill(0, 0, 1));
        checks.dueThrow("P10 not sealed", NONE, () -> x.rowSum(0, 0));
        checks.dueThrow("P30 no scroll", BAD, () -> Made.read(x, "m1"));
        checks.dueThrow("P30 an error", BAD, () -> Made.read(x, "m0;"));
        checks.dueThrow("P8 out of range", BAD, () -> x.slip(0, 0, 1, 0));
        checks.dueThrow("P32 nothing was refused", NONE, () -> x.refusal(false));
        checks.dueThrow("P30 refused", UnsupportedOperationException.class, () -> Made.read(x, "w0:0,0=5;m0"));
        checks.due("P32 by a text", 4, x.refusal(false));
        checks.due("P32 its detail", 0, x.refusal(true));
    }

    private static void p32IsNeitherUndoneNorSaved() {
        ScrollChecks x = Made.used();
        checks.due("P32 the reason", 2, x.refusal(false));
        x.save();
        checks.dueRefusal("P32 another", 4, 2, x, () -> x.fill(2));
        x.undo();
        checks.due("P32 not undone", 4, x.refusal(false));
        x.restore();
        checks.due("P32 not restored", 4, x.refusal(false));
        checks.due("P32 nor its detail", 2, x.refusal(true));
        x.fill(0);
        checks.due("P32 stays behind a success", 4, x.refusal(false));
    }
}
