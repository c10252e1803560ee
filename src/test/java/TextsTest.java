import java.util.NoSuchElementException;
import java.util.regex.Matcher;
import java.util.regex.Pattern;

/** Promises 29 to 32: the input, texts, error positions, reasons. */
public final class TextsTest {
    private static final Class<IllegalArgumentException> BAD = IllegalArgumentException.class;
    private static final Class<IllegalStateException> FULL = IllegalStateException.class;

    private static final Checks checks = new Checks();

    public static void main(String[] args) {
        testAppend();
        testOrders();
        testReadIsOneChange();
        testErrorPositions();
        testErrorPositionsOfChangedTexts();
        testErrorPositionStays();
        testOrdersThatCannotBe();
        testOrdersThatAreRefused();
        testNothingOfItIsCarriedOut();
        testOrdersOnNewScrolls();
        testRefusalStays();
        checks.finish();
    }

    private static void testAppend() {
        ScrollChecks x = new ScrollChecks();
        for (int length = 1; length <= 60; length++) {
            checks.due("P29 length", length, x.append((char) (length * 1000)));
        }
        checks.dueThrow("P29 full", FULL, () -> x.append('s'));
        checks.due("P29 still 60", 60, x.account(10));
        checks.dueThrow("P30 no text", BAD, x::read);
        checks.due("P30 empty afterwards", 0, x.account(10));
        checks.due("P29 from the start", 1, x.append('s'));
    }

    private static void testOrders() {
        ScrollChecks x = new ScrollChecks();
        x.scroll(2, 3);
        checks.due("P30 w", 1, Made.read(x, "w0:1,2=7"));
        checks.due("P30 written", "000 007", Made.lines(x, 0));
        checks.due("P30 s", 1, Made.read(x, "s0"));
        checks.due("P30 sealed", "000|0 007|7", Made.lines(x, 0));
        checks.due("P30 e", 1, Made.read(x, "e0:1,0+9"));
        checks.due("P30 slipped", "000|0 907|7!", Made.lines(x, 0));
        checks.due("P30 c", 1, Made.read(x, "c0"));
        checks.due("P30 copied", "000|0 907|7!", Made.lines(x, 1));
        checks.due("P30 m", 1, Made.read(x, "m1"));
        checks.due("P30 mended", "000|0 007|7", Made.lines(x, 1));
        checks.due("P30 x", 1, Made.read(x, "x1:1,2"));
        checks.due("P30 smudged", "000|0 00?|7", Made.lines(x, 1));
        checks.due("P30 f", 1, Made.read(x, "f1"));
        checks.due("P30 filled in", "000|0 007|7", Made.lines(x, 1));
        checks.due("P33 slipped", 1, x.account(6));
        checks.due("P33 smudged", 1, x.account(7));
        checks.due("P33 mended", 1, x.account(8));
        checks.due("P33 filled in", 1, x.account(9));
        checks.due("P30 seven orders", 7, Made.read(x, "w1:0,0=3;s1;e1:0,0+4;m1;x1:0,0;f1;c1"));
        checks.due("P30 all seven", "300|3 007|7", Made.lines(x, 2));
        checks.due("P31 no error", -1, x.errorPosition());
        checks.due("P30 as many as fit", 20, Made.read(x, "f1;f1;f1;f1;f1;f1;f1;f1;f1;f1;f1;f1;f1;f1;f1;f1;f1;f1;f1;f1"));
        checks.due("P30 sixty characters", 9, Made.read(x, "w0:0,0=1;w0:0,0=2;w0:0,0=3;w0:0,0=4;w0:0,0=5;x0:1,1;s1;s1;f0"));
    }

    private static void testReadIsOneChange() {
        ScrollChecks x = Made.with("00");
        checks.due("P30 three orders", 3, Made.read(x, "w0:0,0=4;s0;x0:0,1"));
        checks.due("P33 two changes", 2, x.account(11));
        checks.due("P37 undone", 1, x.undo());
        checks.due("P37 all of the text", "00", Made.lines(x, 0));
        checks.due("P37 not smudged so far", 0, x.account(7));
        checks.dueThrow("P30 refused", UnsupportedOperationException.class, () -> Made.read(x, "m0"));
        checks.due("P33 no change more", 1, x.account(11));
    }

    private static void testErrorPositions() {
        String[] texts = {"", ";", "w", "w0", "w00", "w0:", "w0:0", "w0:0,", "w0:0,0", "w0:0,0=", "w0:0,0=00",
            "w0:0,0+1", "e0:0,0=1", "e0:0,0+", "x0:0,0=1", "x0:0", "x0;", "s", "s0;", "s0;;s0", "s00", "c", "m:",
            "f-1", "q0", "W0:0,0=1", " s0", "s0 ", "s0;s", "s0;m", "s0;w0:0;0=1", "w0:0,0=1;e0:0,0+1;x0:0,0,",
            "w0:0,00=1", "w/:0,0=1", "w::0,0=1", "x0:/,0", "x0:0,:", "w0:0,0=:", "sa", "s\u0660", "s0;\u0000"};
        int[] due = {0, 0, 1, 2, 2, 3, 4, 5, 6, 7, 8,
            6, 6, 7, 6, 4, 2, 1, 3, 3, 2, 1, 1,
            1, 0, 0, 0, 2, 4, 4, 7, 24,
            6, 1, 1, 3, 5, 7, 1, 1, 3};
        for (int at = 0; at < texts.length; at++) {
            dueError(texts[at], due[at]);
        }
        StringBuilder full = new StringBuilder();
        for (int order = 0; order < 20; order++) {
            full.append("s0;");
        }
        dueError(full.toString(), 60);
        dueError("w0:0,0=1;w0:0,0=1;w0:0,0=1;w0:0,0=1;w0:0,0=1;w0:0,0=1;w0:0,0", 60);
    }

    private static void dueError(String text, int due) {
        ScrollChecks x = Made.sealedWith("12", "34");
        checks.dueThrow("P30 text " + text, BAD, () -> Made.read(x, text));
        checks.due("P31 text " + text, due, x.errorPosition());
        checks.due("P30 empty behind " + text, 0, x.account(10));
        checks.due("P30 nothing carried out of " + text, "12|3 34|7", Made.lines(x, 0));
        checks.due("P30 no change by " + text, 6, x.account(11));
    }

    /** Each character of good texts is left out, doubled or replaced; a pattern tells where the error is. */
    private static void testErrorPositionsOfChangedTexts() {
        String[] good = {"w0:1,1=5;s0;x0:0,1;e0:1,0+1", "c0;m1;f0;w1:0,0=0", "e1:0,1+9;x1:1,1;s0"};
        String others = "wexscmf:,=+;0590 a-";
        for (String text : good) {
            for (int at = 0; at < text.length(); at++) {
                String head = text.substring(0, at);
                String tail = text.substring(at + 1);
                dueErrorByPattern(head);
                dueErrorByPattern(head + tail);
                dueErrorByPattern(head + text.charAt(at) + text.charAt(at) + tail);
                for (int other = 0; other < others.length(); other++) {
                    dueErrorByPattern(head + others.charAt(other) + tail);
                }
            }
        }
    }

    private static void dueErrorByPattern(String text) {
        ScrollChecks x = new ScrollChecks();
        Made.type(x, text);
        checks.dueThrow("P30 without scrolls " + text, BAD, x::read);
        checks.due("P31 by pattern " + text, errorOf(text), x.errorPosition());
    }

    static int errorOf(String text) {
        String cell = "[0-9]:[0-9],[0-9]";
        String order = "(w" + cell + "=[0-9]|e" + cell + "\\+[0-9]|x" + cell + "|[scmf][0-9])";
        Pattern pattern = Pattern.compile(order + "(;" + order + ")*");
        for (int length = 1; length <= text.length(); length++) {
            Matcher matcher = pattern.matcher(text.substring(0, length));
            if (!matcher.matches() && !matcher.hitEnd()) {
                return length - 1;
            }
        }
        return pattern.matcher(text).matches() ? -1 : text.length();
    }

    private static void testErrorPositionStays() {
        ScrollChecks x = Made.with("12");
        x.save();
        checks.dueThrow("P30 an error", BAD, () -> Made.read(x, "s0,"));
        checks.due("P31 its position", 2, x.errorPosition());
        x.append('s');
        x.undo();
        x.restore();
        checks.due("P31 neither undone nor restored", 2, x.errorPosition());
        checks.due("P33 nor the input", 1, x.account(10));
        x.append('0');
        checks.due("P30 the input goes on", 1, x.read());
        checks.due("P31 no error", -1, x.errorPosition());
        checks.dueThrow("P30 an error again", BAD, () -> Made.read(x, "f"));
        checks.dueThrow("P30 refused", UnsupportedOperationException.class, () -> Made.read(x, "c0;c0;c0;c0;c0"));
        checks.due("P31 no error in a text that is refused", -1, x.errorPosition());
    }

    private static void testOrdersThatCannotBe() {
        String[] texts = {"w1:0,0=1", "w0:2,0=1", "w0:0,3=1", "e0:0,0+0", "e5:0,0+1", "e0:9,0+1", "e0:0,9+1",
            "x9:0,0", "x0:2,0", "x0:0,3", "s1", "c1", "m1", "f9", "s0;m5", "c0;w2:0,0=1", "w0:0,0=9;s1;m0"};
        for (String text : texts) {
            ScrollChecks x = Made.with("123", "456");
            checks.dueThrow("P30 " + text, BAD, () -> Made.read(x, text));
            checks.due("P31 " + text, -1, x.errorPosition());
            checks.due("P30 empty behind " + text, 0, x.account(10));
            checks.due("P30 nothing of " + text, "123 456", Made.lines(x, 0));
            checks.due("P30 no copy by " + text, 1, x.account(0));
            checks.due("P30 no change by " + text, 7, x.account(11));
            checks.dueThrow("P32 no reason by " + text, NoSuchElementException.class, () -> x.refusal(false));
        }
    }

    private static void testOrdersThatAreRefused() {
        dueRefusedText("m0", 4, 0);
        dueRefusedText("c0;f1", 4, 1);
        dueRefusedText("s0;m0", 5, 0);
        dueRefusedText("x0:1,2;x0:1,2", 3, 12);
        dueRefusedText("x0:0,1;e0:0,1+1", 3, 1);
        dueRefusedText("x0:0,1;x0:0,2;x0:1,1;s0", 2, 3);
        dueRefusedText("s0;x0:0,1;m0", 2, 1);
        dueRefusedText("s0;e0:0,0+1;e0:0,1+1;m0", 6, 12);
        dueRefusedText("s0;e0:0,0+1;e0:1,0+9;m0", 6, 20);
        dueRefusedText("c0;c0;c0;c0;c0", 1, 5);
        dueRefusedText("f0;m5", 4, 0);
    }

    private static void dueRefusedText(String text, int reason, int detail) {
        ScrollChecks x = Made.with("123", "456");
        checks.dueRefusal("P30 " + text, reason, detail, x, () -> Made.read(x, text));
        checks.due("P31 " + text, -1, x.errorPosition());
        checks.due("P30 empty behind " + text, 0, x.account(10));
        checks.due("P30 nothing of " + text, "123 456", Made.lines(x, 0));
        checks.due("P30 no copy by " + text, 1, x.account(0));
        checks.due("P30 no change by " + text, 7, x.account(11));
    }

    private static void testNothingOfItIsCarriedOut() {
        ScrollChecks x = Made.sealedWith("123", "456");
        x.slip(0, 1, 1, 5);
        checks.dueThrow("P30 the last order is refused", UnsupportedOperationException.class,
            () -> Made.read(x, "m0;e0:0,0+1;m0;x0:0,0;f0;c0;x1:1,1;w0:0,0=1;m0"));
        checks.due("P30 lines", "123|6 406|5!", Made.lines(x, 0));
        for (int what = 6; what <= 9; what++) {
            checks.due("P33 account " + what, what == 6 ? 1 : 0, x.account(what));
        }
        checks.due("P3 mended", 0, x.scrollOf(0, 5));
        checks.due("P3 filled in", 0, x.scrollOf(0, 6));
        checks.due("P33 scrolls", 1, x.account(0));
        checks.due("P37 the slip is undone", 7, x.undo());
        checks.due("P37 as it was", "123|6 456|5", Made.lines(x, 0));
    }

    private static void testOrdersOnNewScrolls() {
        ScrollChecks x = Made.sealedWith("12", "34");
        checks.due("P30 copies of copies", 6, Made.read(x, "c0;c1;e2:0,0+3;c2;m3;x3:1,1"));
        checks.due("P30 the second", "12|3 34|7", Made.lines(x, 1));
        checks.due("P30 the third", "42|3! 34|7", Made.lines(x, 2));
        checks.due("P30 the fourth", "12|3 3?|7", Made.lines(x, 3));
        checks.due("P30 of which it is a copy", 2, x.scrollOf(3, 3));
        checks.due("P37 one change", 6, x.undo());
        checks.due("P37 all copies are gone", 1, x.account(0));
    }

    private static void testRefusalStays() {
        ScrollChecks x = Made.with("12");
        checks.dueThrow("P32 none", NoSuchElementException.class, () -> x.refusal(true));
        x.save();
        checks.dueRefusal("P32 not sealed", 4, 0, x, () -> x.mend(0));
        x.seal(0);
        checks.due("P32 stays behind a success", 4, x.refusal(false));
        checks.dueThrow("P32 another exception", IndexOutOfBoundsException.class, () -> x.mend(7));
        checks.due("P32 stays behind it", 4, x.refusal(false));
        x.undo();
        x.restore();
        checks.due("P32 neither undone nor restored", 4, x.refusal(false));
        x.smudge(0, 0, 1);
        checks.dueRefusal("P32 the latest", 3, 1, x, () -> x.smudge(0, 0, 1));
        checks.due("P32 told again", 1, x.refusal(true));
    }
}
