import java.util.Random;

/** Makes the same calls to the class and to the model, by fixed random numbers, and compares all answers. */
public final class ModelTest {
    private static final int RUNS = 3000;
    private static final int CALLS = 512;
    // No single step of a run makes more calls than this.
    private static final int MOST_CALLS_OF_STEP = 100;
    private static final int[] ODD = {Integer.MIN_VALUE, -536870912, -8, -2, -1, 5, 6, 7, 8, 9, 10, 11, 12, 60,
        268435456, 536870912, Integer.MAX_VALUE};

    private final Random random;
    private final ScrollChecks real = new ScrollChecks();
    private final Model model = new Model();
    private final int oddness;
    private final int size;
    private int made;

    private ModelTest(long seed) {
        random = new Random(seed);
        oddness = random.nextInt(12);
        size = 1 + random.nextInt(8);
    }

    /** A call to either of both, for its answer. */
    private interface Call {
        Object make();
    }

    public static void main(String[] args) {
        int wrong = 0;
        int[] successes = new int[CALL_KINDS];
        int[] refusals = new int[8];
        for (int run = 0; run < RUNS; run++) {
            ModelTest test = new ModelTest(run);
            while (test.made <= CALLS - MOST_CALLS_OF_STEP) {
                int kind = test.chooseKind();
                String difference = test.compare(kind, successes, refusals);
                if (difference != null) {
                    System.out.println("run " + run + ", call " + test.made + ": " + difference);
                    wrong++;
                    break;
                }
            }
        }
        for (int kind = 0; kind < CALL_KINDS; kind++) {
            if (successes[kind] < 100) {
                System.out.println("kind of call " + kind + " succeeded just " + successes[kind] + " times");
                wrong++;
            }
        }
        // Reason 7 is never met; see MendingTest.
        for (int reason = 1; reason <= 6; reason++) {
            if (refusals[reason] < 100) {
                System.out.println("reason " + reason + " was met just " + refusals[reason] + " times");
                wrong++;
            }
        }
        System.out.println(RUNS + " runs, " + wrong + " wrong");
        if (wrong != 0) {
            System.exit(1);
        }
    }

    private static final int CALL_KINDS = 39;

    private int chooseKind() {
        int any = random.nextInt(100);
        if (any < 50) {
            return random.nextInt(CALL_KINDS);
        }
        // Changes and texts have to be frequent, or little is to be seen.
        int[] frequent = {0, 2, 4, 4, 5, 6, 6, 7, 7, 15, 18, 19, 19, 37, 26, 26, 26, 26, 26, 26, 38, 38, 33};
        return frequent[random.nextInt(frequent.length)];
    }

    private String compare(int kind, int[] successes, int[] refusals) {
        Call[] both = calls(kind);
        String due = answer(both[1]);
        String got = answer(both[0]);
        made++;
        if (!due.startsWith("class")) {
            successes[kind]++;
        }
        if (due.equals("class java.lang.UnsupportedOperationException")) {
            refusals[model.refusal(false)]++;
        }
        return due.equals(got) ? null : "kind " + kind + " answered " + got + ", due is " + due;
    }

    private static String answer(Call call) {
        try {
            return call.make().toString();
        } catch (RuntimeException thrown) {
            return thrown.getClass().toString();
        }
    }

    private int number(int end) {
        return random.nextInt(100) < oddness ? ODD[random.nextInt(ODD.length)] : random.nextInt(end);
    }

    private int scrollNumber() {
        return number(Math.max(1, model.account(0)));
    }

    private int rowNumber() {
        return number(Math.min(6, size));
    }

    private static Call[] both(Call real, Call model) {
        return new Call[] {real, model};
    }

    private Call[] calls(int kind) {
        int s = scrollNumber();
        int r = rowNumber();
        int c = number(size);
        int n = number(10);
        boolean b = random.nextBoolean();
        switch (kind) {
            case 0: {
                int rows = random.nextInt(4) == 0 ? number(9) : Math.min(6, size);
                int columns = random.nextInt(4) == 0 ? number(9) : size;
                return both(() -> real.scroll(rows, columns), () -> model.scroll(rows, columns));
            }
            case 1: return both(() -> real.scrollOf(s, n), () -> model.scrollOf(s, n));
            case 2: return both(() -> real.write(s, r, c, n), () -> model.write(s, r, c, n));
            case 3: return both(() -> real.signAt(s, r, c), () -> model.signAt(s, r, c));
            case 4: return both(() -> real.seal(s), () -> model.seal(s));
            case 5: return both(() -> real.copy(s), () -> model.copy(s));
            case 6: return both(() -> real.slip(s, r, c, n), () -> model.slip(s, r, c, n));
            case 7: return both(() -> real.smudge(s, r, c), () -> model.smudge(s, r, c));
            case 8: return both(() -> real.rowSum(s, r), () -> model.rowSum(s, r));
            case 9: return both(() -> real.columnSum(s, c), () -> model.columnSum(s, c));
            case 10: return both(() -> real.rowFault(s, r), () -> model.rowFault(s, r));
            case 11: return both(() -> real.columnFault(s, c), () -> model.columnFault(s, c));
            case 12: return both(() -> real.wrongRows(s), () -> model.wrongRows(s));
            case 13: return both(() -> real.wrongColumns(s), () -> model.wrongColumns(s));
            case 14: return both(() -> real.isInDoubt(s, r, c), () -> model.isInDoubt(s, r, c));
            case 15: return both(() -> real.mend(s), () -> model.mend(s));
            case 16: return both(() -> real.wouldMend(s), () -> model.wouldMend(s));
            case 17: return both(() -> real.mendAgain(s), () -> model.wouldMend(s));
            case 18: return both(() -> real.fill(s), () -> model.fill(s));
            case 19: return both(() -> real.wouldFill(s, r, c), () -> model.wouldFill(s, r, c));
            case 20: {
                int other = scrollNumber();
                return both(() -> real.differ(s, other), () -> model.differ(s, other));
            }
            case 21: return both(() -> real.ranked(s), () -> model.ranked(s));
            case 22: return both(() -> real.count(s, n), () -> model.count(s, n));
            case 23: return both(() -> real.line(s, r), () -> model.line(s, r));
            case 24: return both(() -> real.character(n), () -> model.character(n));
            case 25: return both(() -> real.doubts(s), () -> model.doubts(s));
            default: return callsOfTexts(kind, s, b);
        }
    }

    private Call[] callsOfTexts(int kind, int s, boolean b) {
        switch (kind) {
            case 26: {
                String text = text();
                return both(() -> type(text, true), () -> type(text, false));
            }
            case 27: return both(real::errorPosition, model::errorPosition);
            case 28: return both(() -> real.refusal(b), () -> model.refusal(b));
            case 29: {
                int what = number(12);
                return both(() -> real.account(what), () -> model.account(what));
            }
            case 30: return both(real::isWell, () -> true);
            case 31: return both(() -> real.meanSign(s), () -> model.meanSign(s));
            case 32: return both(() -> real.doubtShare(s), () -> model.doubtShare(s));
            case 33: return both(real::undo, model::undo);
            case 34: return both(real::save, model::save);
            case 35: return both(this::restoreReal, this::restoreModel);
            case 36: return both(() -> real.doubtsAgain(s), () -> model.doubts(s));
            case 37: return both(() -> everything(s, true), () -> everything(s, false));
            default: return both(real::read, model::read);
        }
    }

    private Object restoreReal() {
        return real.restore();
    }

    private Object restoreModel() {
        return model.restore();
    }

    private Object type(String text, boolean isReal) {
        int length = 0;
        for (int at = 0; at < text.length(); at++) {
            length = isReal ? real.append(text.charAt(at)) : model.append(text.charAt(at));
            made += isReal ? 1 : 0;
        }
        return length;
    }

    /** All of one scroll, and the accounts. */
    private String everything(int scroll, boolean isReal) {
        StringBuilder all = new StringBuilder();
        boolean isThere = scroll >= 0 && scroll < model.account(0);
        for (int row = 0; isThere && row < model.scrollOf(scroll, 0); row++) {
            int length = isReal ? real.line(scroll, row) : model.line(scroll, row);
            for (int at = 0; at < length; at++) {
                all.append(isReal ? real.character(at) : model.character(at));
            }
            all.append(' ');
            made += isReal ? 1 + length : 0;
        }
        for (int what = 0; isThere && what <= 6; what++) {
            all.append(isReal ? real.scrollOf(scroll, what) : model.scrollOf(scroll, what)).append(',');
            made += isReal ? 1 : 0;
        }
        for (int what = 0; what <= 11; what++) {
            all.append(isReal ? real.account(what) : model.account(what)).append(';');
            made += isReal ? 1 : 0;
        }
        return all.toString();
    }

    /** A few orders, seldom spoilt. */
    private String text() {
        StringBuilder text = new StringBuilder(model.account(10) > 0 ? ";" : "");
        int orders = 1 + random.nextInt(4);
        for (int order = 0; order < orders; order++) {
            text.append(order == 0 ? "" : ";").append(order());
        }
        if (random.nextInt(12) == 0) {
            text.setCharAt(random.nextInt(text.length()), "wexscmf:,=+;0123456789 \u20ac".charAt(random.nextInt(24)));
        }
        return text.toString();
    }

    private String order() {
        String scroll = "" + random.nextInt(Math.max(1, model.account(0) + random.nextInt(8) / 7));
        String cell = scroll + ":" + random.nextInt(Math.min(6, size)) + "," + random.nextInt(size);
        switch (random.nextInt(8)) {
            case 0: return "w" + cell + "=" + random.nextInt(10);
            case 1: return "x" + cell;
            case 2: return "s" + scroll;
            case 3: return "c" + scroll;
            case 4: return "m" + scroll;
            case 5: return "f" + scroll;
            default: return "e" + cell + "+" + random.nextInt(10);
        }
    }
}
