/** Promises 33 to 39 at their bounds: accounts, shares, undo and snapshot. */
public final class BoundsOfAccountsTest {
    private static final Class<IndexOutOfBoundsException> NO_PLACE = IndexOutOfBoundsException.class;
    private static final Class<IllegalArgumentException> BAD = IllegalArgumentException.class;
    private static final Class<IllegalStateException> NO_STATE = IllegalStateException.class;
    private static final Class<ArithmeticException> NO_MEAN = ArithmeticException.class;

    private static final Checks checks = new Checks();
    private static final Unchanged unchanged = new Unchanged(checks, Made::used);

    public static void main(String[] args) {
        p33WhatIsFrom0To11();
        p33AccountsWhenAllIsFull();
        p33CountsWhatIsSoFar();
        p33AFailureCountsNothing();
        p34IsWellWhereverItStands();
        p35AllSmudgedAndAllButOne();
        p35TheLeastAndTheMost();
        p36NoneAndAllAreInDoubt();
        p36OneCell();
        p37NothingToUndo();
        p37EightAndNine();
        p37EachKindOfChange();
        p37ChangesThatMakeNothingDifferent();
        p37OtherCallsAreNoChanges();
        p37AChangeBehindUndo();
        p38TheScrolls();
        p38IsNoChange();
        p38InPlaceOfAnEarlierOne();
        p39ThereIsNoSnapshot();
        p39AllIsAsItWas();
        p39WhatIsNotSavedStays();
        p39TheSnapshotStays();
        p39ForgetsAllChanges();
        checks.finish();
    }

    private static void dueAccounts(String what, ScrollChecks x, int... due) {
        for (int account = 0; account < due.length; account++) {
            checks.due("P33 " + what + ", account " + account, due[account], x.account(account));
        }
    }

    private static ScrollChecks largest() {
        ScrollChecks x = new ScrollChecks();
        x.scroll(6, 8);
        return x;
    }

    /** Fills scrolls with smudged cells, from the first on, by few calls: the others are copies. */
    private static ScrollChecks allSmudged() {
        ScrollChecks x = largest();
        for (int cell = 0; cell < 48; cell++) {
            x.smudge(0, cell / 8, cell % 8);
        }
        x.copy(0);
        x.copy(0);
        x.copy(0);
        x.copy(0);
        return x;
    }

    // Promises 33 and 34

    private static void p33WhatIsFrom0To11() {
        int[] due = {3, 2, 1, 14, 2, 3, 2, 3, 1, 1, 9, 8};
        for (int what = 0; what <= 11; what++) {
            int asked = what;
            unchanged.dueAnswer("P33 what " + what, due[what], x -> x.account(asked));
        }
        for (int what : new int[] {-1, 12, 13, Integer.MIN_VALUE, Integer.MAX_VALUE}) {
            unchanged.dueThrow("P33 what " + what, BAD, x -> x.account(what));
        }
        dueAccounts("of nothing", new ScrollChecks(), 0, 0, 0, 0, 0, 0, 0, 0, 0, 0, 0, 0);
    }

    private static void p33AccountsWhenAllIsFull() {
        ScrollChecks x = allSmudged();
        Made.type(x, "012345678901234567890123456789012345678901234567890123456789");
        dueAccounts("all are smudged", x, 5, 0, 4, 240, 240, 240, 0, 48, 0, 0, 60, 8);
        ScrollChecks sealed = largest();
        sealed.seal(0);
        for (int copy = 0; copy < 4; copy++) {
            sealed.copy(copy);
        }
        dueAccounts("all are sealed", sealed, 5, 5, 4, 240, 0, 0, 0, 0, 0, 0, 0, 6);
    }

    private static void p33CountsWhatIsSoFar() {
        ScrollChecks x = Made.sealedWith("12", "34");
        x.slip(0, 0, 0, 1);
        x.slip(0, 0, 0, 9);
        checks.due("P33 slipped, also back to the sign before", 2, x.account(6));
        x.smudge(0, 0, 0);
        x.write(0, 0, 0, 1);
        checks.due("P33 smudged, also if it is written then", 1, x.account(7));
        x.write(0, 0, 0, 2);
        x.mend(0);
        x.write(0, 0, 0, 2);
        x.mend(0);
        checks.due("P33 mended", 2, x.account(8));
        checks.due("P33 a mended sign is none that slips", 2, x.account(6));
        x.smudge(0, 0, 0);
        x.fill(0);
        x.copy(0);
        x.smudge(1, 1, 1);
        x.smudge(1, 0, 0);
        x.fill(1);
        dueAccounts("of two scrolls", x, 2, 2, 1, 8, 0, 0, 2, 4, 2, 3);
        checks.due("P33 those of the first", "2 1", x.scrollOf(0, 5) + " " + x.scrollOf(0, 6));
        checks.due("P33 those of the copy", "0 2", x.scrollOf(1, 5) + " " + x.scrollOf(1, 6));
        Made.read(x, "e0:0,0+1;e0:0,0+9;x0:0,0;f0;e0:1,1+5;m0");
        dueAccounts("by a text", x, 2, 2, 1, 8, 0, 0, 5, 5, 3, 4);
    }

    private static void p33AFailureCountsNothing() {
        ScrollChecks x = Made.with("1?");
        checks.dueRefusal("P8 smudged", 3, 1, x, () -> x.slip(0, 0, 1, 1));
        checks.dueRefusal("P9 smudged", 3, 1, x, () -> x.smudge(0, 0, 1));
        checks.dueRefusal("P19 not sealed", 4, 0, x, () -> x.mend(0));
        checks.dueRefusal("P22 not sealed", 4, 0, x, () -> x.fill(0));
        checks.dueRefusal("P30 not sealed", 4, 0, x, () -> Made.read(x, "e0:0,0+1;x0:0,0;m0"));
        dueAccounts("behind failures", x, 1, 0, 0, 2, 1, 1, 0, 1, 0, 0, 0, 3);
    }

    private static void p34IsWellWhereverItStands() {
        unchanged.dueAnswer("P34 in use", true, ScrollChecks::isWell);
        checks.due("P34 full", true, Made.usedAndFull().isWell());
        checks.due("P34 all are smudged", true, allSmudged().isWell());
        checks.due("P34 new", true, new ScrollChecks().isWell());
        String[][] sealed = {{"5"}, {"12345678"}, {"1", "2", "3", "4", "5", "6"}, {"123", "456"}, {"12", "34", "56"},
            {"99999999", "88888888", "77777777", "66666666", "55555555", "44444443"}};
        for (String[] rows : sealed) {
            checks.due("P34 sealed " + String.join(" ", rows), true, Made.sealedWith(rows).isWell());
        }
        ScrollChecks x = Made.sealedWith("89", "97");
        checks.due("P34 sums above 9", true, x.isWell());
        x.write(0, 0, 0, 3);
        checks.due("P34 wrong", true, x.isWell());
        x.mend(0);
        checks.due("P34 mended", true, x.isWell());
        x.smudge(0, 0, 0);
        checks.due("P34 smudged", true, x.isWell());
        x.fill(0);
        checks.due("P34 filled in", true, x.isWell());
        x.copy(0);
        checks.due("P34 copied", true, x.isWell());
        Made.put(x, 0, "98", "88");
        checks.due("P34 other signs with the same sums", true, x.isWell());
        x.seal(0);
        checks.due("P34 sealed anew", true, x.isWell());
        while (x.account(11) > 0) {
            x.undo();
            checks.due("P34 undone to " + x.account(11), true, x.isWell());
        }
    }

    // Promises 35 and 36

    private static void p35AllSmudgedAndAllButOne() {
        Unchanged smudged = new Unchanged(checks, () -> Made.with("??", "??"));
        smudged.dueThrow("P35 all are smudged", NO_MEAN, x -> x.meanSign(0));
        smudged.dueThrow("P35 no scroll goes first", NO_PLACE, x -> x.meanSign(1));
        unchanged.dueNoScroll("P35 meanSign", (x, scroll) -> x.meanSign(scroll));
        unchanged.dueAnswer("P35 two are smudged", 3.5, x -> x.meanSign(1));
        ScrollChecks one = Made.with("?");
        checks.dueThrow("P35 the only cell is smudged", NO_MEAN, () -> one.meanSign(0));
        one.write(0, 0, 0, 7);
        checks.due("P35 the only cell", 7.0, one.meanSign(0));
        ScrollChecks x = allSmudged();
        checks.dueThrow("P35 48 are smudged", NO_MEAN, () -> x.meanSign(4));
        x.write(4, 5, 7, 3);
        checks.due("P35 all but the last", 3.0, x.meanSign(4));
        x.write(4, 0, 0, 4);
        checks.due("P35 all but two", 3.5, x.meanSign(4));
        checks.dueThrow("P35 the other still", NO_MEAN, () -> x.meanSign(3));
    }

    private static void p35TheLeastAndTheMost() {
        checks.due("P35 the least", 0.0, largest().meanSign(0));
        String nines = "99999999";
        checks.due("P35 the most", 9.0, Made.with(nines, nines, nines, nines, nines, nines).meanSign(0));
        checks.due("P35 as doubles", 2.0 / 3.0, Made.with("101").meanSign(0));
        checks.due("P35 of sealed signs as they are now", 1.5, wrong().meanSign(0));
    }

    private static ScrollChecks wrong() {
        ScrollChecks x = Made.sealedWith("12");
        x.slip(0, 0, 0, 1);
        x.slip(0, 0, 1, 9);
        return x;
    }

    private static void p36NoneAndAllAreInDoubt() {
        unchanged.dueNoScroll("P36 doubtShare", (x, scroll) -> x.doubtShare(scroll));
        checks.due("P36 none of 48", 0.0f, largest().doubtShare(0));
        checks.due("P36 all of 48", 1.0f, allSmudged().doubtShare(4));
        checks.due("P36 none of one", 0.0f, Made.with("1").doubtShare(0));
        checks.due("P36 the only one", 1.0f, Made.with("?").doubtShare(0));
        checks.due("P36 none when two columns and no row are wrong", 0.0f, wrong().doubtShare(0));
    }

    private static void p36OneCell() {
        unchanged.dueAnswer("P36 one of six, crossed", 1.0f / 6.0f, x -> x.doubtShare(0));
        unchanged.dueAnswer("P36 two of six, smudged", 2.0f / 6.0f, x -> x.doubtShare(1));
        ScrollChecks x = largest();
        x.smudge(0, 5, 7);
        checks.due("P36 one of 48", 1.0f / 48.0f, x.doubtShare(0));
    }

    // Promise 37

    private static void p37NothingToUndo() {
        Unchanged fresh = new Unchanged(checks, ScrollChecks::new);
        fresh.dueThrow("P37 a new object", NO_STATE, ScrollChecks::undo);
        Unchanged undone = new Unchanged(checks, () -> {
            ScrollChecks x = Made.used();
            for (int change = 0; change < 8; change++) {
                x.undo();
            }
            return x;
        });
        undone.dueThrow("P37 eight are undone", NO_STATE, ScrollChecks::undo);
        Unchanged restored = new Unchanged(checks, () -> {
            ScrollChecks x = Made.used();
            x.restore();
            return x;
        });
        restored.dueThrow("P37 restored", NO_STATE, ScrollChecks::undo);
    }

    private static void p37EightAndNine() {
        for (int changes = 1; changes <= 20; changes++) {
            ScrollChecks x = largest();
            x.save();
            x.restore();
            for (int change = 0; change < changes; change++) {
                x.slip(0, change / 8, change % 8, 9);
            }
            int kept = Math.min(8, changes);
            checks.due("P37 kept of " + changes, kept, x.account(11));
            for (int left = kept - 1; left >= 0; left--) {
                checks.due("P37 left of " + changes, left, x.undo());
                checks.due("P37 slipped still of " + changes, changes - kept + left, x.account(6));
                checks.due("P37 signs still of " + changes, changes - kept + left, x.count(0, 9));
            }
            checks.dueThrow("P37 none is left of " + changes, NO_STATE, x::undo);
        }
    }

    private static void p37EachKindOfChange() {
        Unchanged.Use[] kinds = {x -> x.scroll(6, 8), x -> x.write(1, 1, 2, 0), x -> x.seal(0), x -> x.copy(1),
            x -> x.slip(2, 0, 1, 9), x -> x.smudge(2, 0, 0), x -> x.mend(0), x -> x.fill(1),
            x -> Made.read(x, ";c1;f0")};
        for (int kind = 0; kind < kinds.length; kind++) {
            int chosen = kind;
            ScrollChecks x = Made.used();
            x.undo();
            x.slip(0, 1, 1, 4);
            kinds[chosen].on(x);
            checks.due("P37 eight with kind " + kind, 8, x.account(11));
            checks.due("P37 undone kind " + kind, 7, x.undo());
            ScrollChecks y = Made.used();
            dueSameScrolls("P37 undone kind " + kind, y, x);
            y.undo();
            x.undo();
            dueSameScrolls("P37 undone behind kind " + kind, y, x);
        }
    }

    private static void dueSameScrolls(String what, ScrollChecks due, ScrollChecks got) {
        for (int account = 0; account <= 9; account++) {
            checks.due(what + ", account " + account, due.account(account), got.account(account));
        }
        for (int scroll = 0; scroll < due.account(0); scroll++) {
            checks.due(what + ", lines of " + scroll, Made.lines(due, scroll), Made.lines(got, scroll));
            for (int number = 0; number <= 6; number++) {
                checks.due(what + ", number " + number + " of " + scroll, due.scrollOf(scroll, number),
                    got.scrollOf(scroll, number));
            }
        }
    }

    private static void p37ChangesThatMakeNothingDifferent() {
        ScrollChecks x = Made.sealedWith("1");
        x.save();
        x.restore();
        x.write(0, 0, 0, 1);
        checks.due("P37 the same sign is written", 1, x.account(11));
        x.seal(0);
        checks.due("P37 sealed anew with the same sums", 2, x.account(11));
        x.fill(0);
        checks.due("P37 no cell is filled in", 3, x.account(11));
        Made.read(x, "w0:0,0=1;s0;f0");
        checks.due("P37 a text of such orders", 4, x.account(11));
        for (int left = 3; left >= 0; left--) {
            checks.due("P37 undone", left, x.undo());
            checks.due("P37 nothing is different", "1|1", Made.lines(x, 0));
        }
    }

    private static void p37OtherCallsAreNoChanges() {
        ScrollChecks x = wrong();
        int changes = x.account(11);
        x.line(0, 0);
        x.append('s');
        x.save();
        x.isWell();
        x.ranked(0);
        x.doubts(0);
        checks.dueThrow("P30 an error", BAD, x::read);
        checks.dueRefusal("P19 two columns", 6, 2, x, () -> x.mend(0));
        checks.due("P37 as many as before", changes, x.account(11));
        x.undo();
        checks.due("P37 undo is none, and undoes the slip", "22|3!", Made.lines(x, 0));
        checks.due("P37 one less", changes - 1, x.account(11));
    }

    private static void p37AChangeBehindUndo() {
        ScrollChecks x = Made.with("0");
        x.write(0, 0, 0, 1);
        x.write(0, 0, 0, 2);
        x.undo();
        x.write(0, 0, 0, 3);
        checks.due("P37 back to what was there", 2, x.undo());
        checks.due("P37 the sign", 1, x.signAt(0, 0, 0));
        checks.due("P37 further back", 1, x.undo());
        checks.due("P37 the sign before", 0, x.signAt(0, 0, 0));
        checks.due("P37 to no scrolls", 0, x.undo());
        checks.dueThrow("P37 no scroll", NO_PLACE, () -> x.signAt(0, 0, 0));
        ScrollChecks twice = Made.used();
        for (int change = 0; change < 8; change++) {
            twice.undo();
        }
        for (int change = 1; change <= 9; change++) {
            twice.slip(0, 0, 0, 1);
            checks.due("P37 kept anew", Math.min(8, change), twice.account(11));
        }
    }

    // Promises 38 and 39

    private static void p38TheScrolls() {
        checks.due("P38 none", 0, new ScrollChecks().save());
        checks.due("P38 one", 1, Made.with("1").save());
        checks.due("P38 five", 5, Made.usedAndFull().save());
    }

    private static void p38IsNoChange() {
        ScrollChecks x = Made.used();
        checks.due("P38 three", 3, x.save());
        checks.due("P38 eight changes still", 8, x.account(11));
        checks.due("P37 the slip is undone", 7, x.undo());
        checks.due("P37 as it was ahead of it", "123|6 456|5", Made.lines(x, 0));
        checks.due("P38 is not undone", 3, x.restore());
        checks.due("P39 as it was then", "123|6 496|5!", Made.lines(x, 0));
    }

    private static void p38InPlaceOfAnEarlierOne() {
        ScrollChecks x = Made.with("1");
        x.save();
        x.write(0, 0, 0, 2);
        x.copy(0);
        x.save();
        x.write(0, 0, 0, 3);
        checks.due("P39 the later one", 2, x.restore());
        checks.due("P39 its sign", 2, x.signAt(0, 0, 0));
    }

    private static void p39ThereIsNoSnapshot() {
        Unchanged none = new Unchanged(checks, () -> Made.sealedWith("12", "34"));
        none.dueThrow("P39 no snapshot", NO_STATE, ScrollChecks::restore);
        Unchanged fresh = new Unchanged(checks, ScrollChecks::new);
        fresh.dueThrow("P39 a new object", NO_STATE, ScrollChecks::restore);
        ScrollChecks x = new ScrollChecks();
        x.save();
        checks.due("P39 a snapshot of nothing is one", 0, x.restore());
    }

    private static void p39AllIsAsItWas() {
        ScrollChecks x = Made.used();
        x.save();
        x.mend(0);
        x.fill(1);
        x.smudge(1, 0, 1);
        x.slip(2, 0, 0, 1);
        x.seal(2);
        x.copy(2);
        x.scroll(1, 1);
        checks.due("P39 scrolls", 3, x.restore());
        dueSameScrolls("P39", Made.used(), x);
        checks.dueThrow("P39 the fourth is gone", NO_PLACE, () -> x.scrollOf(3, 0));
        ScrollChecks more = Made.used();
        more.save();
        for (int change = 0; change < 8; change++) {
            more.undo();
        }
        checks.due("P39 also where more was undone", 3, more.restore());
        dueSameScrolls("P39 where more was undone", Made.used(), more);
        ScrollChecks other = Made.with("1");
        other.copy(0);
        other.save();
        other.undo();
        other.scroll(2, 3);
        checks.due("P39 also where another stands", 2, other.restore());
        checks.due("P39 the copy is one again", 0, other.scrollOf(1, 3));
        checks.due("P39 the copy has its size and sign", 0, other.differ(0, 1));
    }

    private static void p39WhatIsNotSavedStays() {
        ScrollChecks x = Made.used();
        x.save();
        x.append(';');
        x.line(2, 0);
        checks.dueRefusal("P22 not sealed", 4, 2, x, () -> x.fill(2));
        x.restore();
        checks.due("P39 the input stays", 10, x.account(10));
        checks.dueThrow("P39 the line stays", NO_PLACE, () -> x.character(2));
        checks.due("P39 the error position stays", 4, x.errorPosition());
        checks.due("P39 the reason stays", 4, x.refusal(false));
        checks.due("P39 the detail stays", 2, x.refusal(true));
    }

    private static void p39TheSnapshotStays() {
        ScrollChecks x = Made.used();
        x.save();
        for (int time = 0; time < 3; time++) {
            x.mend(0);
            x.fill(1);
            checks.due("P39 time " + time, 3, x.restore());
            dueSameScrolls("P39 time " + time, Made.used(), x);
        }
        checks.due("P39 twice, one behind the other", 3, x.restore());
    }

    private static void p39ForgetsAllChanges() {
        ScrollChecks x = Made.used();
        x.save();
        checks.due("P33 eight", 8, x.account(11));
        x.restore();
        checks.due("P33 none", 0, x.account(11));
        checks.dueThrow("P37 none", NO_STATE, x::undo);
        x.slip(0, 0, 0, 1);
        checks.due("P37 one behind it", 0, x.undo());
        checks.dueThrow("P37 no more than that", NO_STATE, x::undo);
        dueSameScrolls("P37 as restored", Made.used(), x);
    }
}
