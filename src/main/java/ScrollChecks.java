import java.util.NoSuchElementException;

/** A scribe who checks copied scrolls; the document ../shared/DOC.md promises what each call answers. */
public final class ScrollChecks {
    private static final int MAX_SCROLLS = 5;
    private static final int MAX_ROWS = 6;
    private static final int MAX_COLUMNS = 8;
    private static final int MAX_CELLS = MAX_ROWS * MAX_COLUMNS;
    private static final int BANDS = MAX_ROWS + MAX_COLUMNS;
    private static final int MAX_INPUT = 60;
    private static final int MAX_UNDO = 8;
    private static final int MAX_SIGN = 9;
    private static final int SIGNS = 10;

    private static final int SMUDGED = -1;
    private static final int NONE = -1;

    // An obstacle is what stands in the way of a change, as one number: one of these three, or REFUSAL times the
    // reason and the detail, which is always below REFUSAL. So a text can be tried without exceptions.
    private static final int CLEAR = 0;
    private static final int NO_PLACE = 1;
    private static final int BAD_NUMBER = 2;
    private static final int REFUSAL = 100;

    private static final int SHELF_FULL = 1;
    private static final int CELLS_SMUDGED = 2;
    private static final int CELL_SMUDGED = 3;
    private static final int NOT_SEALED = 4;
    private static final int NOTHING_WRONG = 5;
    private static final int NOT_JUST_ONE_EACH = 6;
    private static final int FAULTS_DIFFER = 7;

    private static final Deed[] DEEDS = Deed.values();

    private final Shelf now = new Shelf();
    private final Shelf beforeText = new Shelf();
    private final Shelf snapshot = new Shelf();
    private final History history = new History();
    private final Scroll trial = new Scroll();
    private final Input input = new Input();
    private final StringBuilder lineText = new StringBuilder();
    private boolean hasSnapshot;
    private int errorAt = NONE;
    private int reason;
    private int detail;

    public ScrollChecks() {
    }

    // Scrolls and signs

    public int scroll(int rows, int columns) throws IllegalArgumentException, UnsupportedOperationException {
        return change(Deed.SCROLL, NONE, rows, columns, 0);
    }

    public int scrollOf(int scroll, int what) throws IndexOutOfBoundsException, IllegalArgumentException {
        Scroll found = existing(scroll);
        switch (what) {
            case 0:
                return found.rows;
            case 1:
                return found.columns;
            case 2:
                return found.isSealed ? 1 : 0;
            case 3:
                return found.original;
            case 4:
                return found.smudgedCells();
            case 5:
                return found.mended;
            case 6:
                return found.filled;
            default:
                throw new IllegalArgumentException("what is not from 0 to 6");
        }
    }

    public int write(int scroll, int row, int column, int sign)
            throws IndexOutOfBoundsException, IllegalArgumentException {
        return change(Deed.WRITE, scroll, row, column, sign);
    }

    public int signAt(int scroll, int row, int column) throws IndexOutOfBoundsException {
        return withCell(scroll, row, column).sign(row, column);
    }

    public int seal(int scroll) throws IndexOutOfBoundsException, UnsupportedOperationException {
        return change(Deed.SEAL, scroll, 0, 0, 0);
    }

    public int copy(int scroll) throws IndexOutOfBoundsException, UnsupportedOperationException {
        return change(Deed.COPY, scroll, 0, 0, 0);
    }

    public int slip(int scroll, int row, int column, int by)
            throws IndexOutOfBoundsException, IllegalArgumentException, UnsupportedOperationException {
        return change(Deed.SLIP, scroll, row, column, by);
    }

    public int smudge(int scroll, int row, int column)
            throws IndexOutOfBoundsException, UnsupportedOperationException {
        return change(Deed.SMUDGE, scroll, row, column, 0);
    }

    // Sums, faults, doubts

    public int rowSum(int scroll, int row) throws IndexOutOfBoundsException, NoSuchElementException {
        return onlySealed(withRow(scroll, row)).toldSum(row);
    }

    public int columnSum(int scroll, int column) throws IndexOutOfBoundsException, NoSuchElementException {
        return onlySealed(withColumn(scroll, column)).toldSum(MAX_ROWS + column);
    }

    public int rowFault(int scroll, int row) throws IndexOutOfBoundsException, NoSuchElementException {
        return onlySealed(withRow(scroll, row)).fault(row);
    }

    public int columnFault(int scroll, int column) throws IndexOutOfBoundsException, NoSuchElementException {
        return onlySealed(withColumn(scroll, column)).fault(MAX_ROWS + column);
    }

    public int wrongRows(int scroll) throws IndexOutOfBoundsException, NoSuchElementException {
        return onlySealed(existing(scroll)).rowsWrong();
    }

    public int wrongColumns(int scroll) throws IndexOutOfBoundsException, NoSuchElementException {
        return onlySealed(existing(scroll)).columnsWrong();
    }

    public boolean isInDoubt(int scroll, int row, int column) throws IndexOutOfBoundsException {
        return withCell(scroll, row, column).isDoubtful(row, column);
    }

    public int doubts(int scroll) throws IndexOutOfBoundsException {
        return existing(scroll).doubtsByCell();
    }

    public int doubtsAgain(int scroll) throws IndexOutOfBoundsException {
        return existing(scroll).doubtsByProduct();
    }

    // Mending and filling in

    public int mend(int scroll) throws IndexOutOfBoundsException, UnsupportedOperationException {
        return change(Deed.MEND, scroll, 0, 0, 0);
    }

    public int wouldMend(int scroll) throws IndexOutOfBoundsException, NoSuchElementException {
        Scroll found = existing(scroll);
        if (found.obstacleToMending(scroll) != CLEAR) {
            throw new NoSuchElementException("mend would be refused");
        }
        return found.cellToMend();
    }

    public int mendAgain(int scroll) throws IndexOutOfBoundsException, NoSuchElementException {
        Scroll found = onlySealed(existing(scroll));
        if (found.smudgedCells() > 0 || found.isAllRight()) {
            throw new NoSuchElementException("a cell is smudged, or nothing is wrong");
        }
        trial.become(found);
        int cell = trial.findMendByTrying();
        if (cell == NONE) {
            throw new NoSuchElementException("no cell mends it");
        }
        return cell;
    }

    public int fill(int scroll) throws IndexOutOfBoundsException, UnsupportedOperationException {
        return change(Deed.FILL, scroll, 0, 0, 0);
    }

    public int wouldFill(int scroll, int row, int column) throws IndexOutOfBoundsException, NoSuchElementException {
        Scroll found = onlySealed(withCell(scroll, row, column));
        if (!found.isSmudged(row, column)) {
            throw new NoSuchElementException("the cell is not smudged");
        }
        trial.become(found);
        trial.fillCells();
        if (trial.isSmudged(row, column)) {
            throw new NoSuchElementException("the cell would still be smudged");
        }
        return trial.sign(row, column);
    }

    public int differ(int scroll, int other) throws IndexOutOfBoundsException, IllegalArgumentException {
        Scroll first = existing(scroll);
        Scroll second = existing(other);
        if (first.rows != second.rows || first.columns != second.columns) {
            throw new IllegalArgumentException("they have not as many rows and columns");
        }
        return first.differencesTo(second);
    }

    public int ranked(int place) throws NoSuchElementException {
        int number = now.numberAtRank(place);
        if (number == NONE) {
            throw new NoSuchElementException("no such place");
        }
        return number;
    }

    public int count(int scroll, int sign) throws IndexOutOfBoundsException, IllegalArgumentException {
        Scroll found = existing(scroll);
        if (!isWithin(sign, 0, MAX_SIGN)) {
            throw new IllegalArgumentException("the sign is out of range");
        }
        return found.howOften(sign);
    }

    public int line(int scroll, int row) throws IndexOutOfBoundsException {
        Scroll found = withRow(scroll, row);
        lineText.setLength(0);
        found.writeRowOn(lineText, row);
        return lineText.length();
    }

    public char character(int index) throws IndexOutOfBoundsException {
        if (index < 0 || index >= lineText.length()) {
            throw new IndexOutOfBoundsException("no such index");
        }
        return lineText.charAt(index);
    }

    // Texts, accounts, undo and snapshot

    public int append(char c) throws IllegalStateException {
        if (input.isFull()) {
            throw new IllegalStateException("the input is full");
        }
        input.add(c);
        return input.length;
    }

    public int read() throws IllegalArgumentException, UnsupportedOperationException {
        errorAt = input.firstError();
        if (errorAt != NONE) {
            input.empty();
            throw new IllegalArgumentException("the text has an error");
        }
        beforeText.become(now);
        int orders = 0;
        int obstacle = CLEAR;
        int start = 0;
        while (orders < MAX_INPUT && start < input.length && obstacle == CLEAR) {
            obstacle = carryOutOrder(start);
            start = input.startOfNext(start);
            orders++;
        }
        input.empty();
        if (obstacle != CLEAR) {
            now.become(beforeText);
            stopFor(obstacle == NO_PLACE ? BAD_NUMBER : obstacle);
        }
        history.remember(beforeText);
        return orders;
    }

    public int errorPosition() {
        return errorAt;
    }

    public int refusal(boolean isDetail) throws NoSuchElementException {
        if (reason == 0) {
            throw new NoSuchElementException("nothing was refused");
        }
        return isDetail ? detail : reason;
    }

    public int account(int what) throws IllegalArgumentException {
        switch (what) {
            case 6:
                return now.slipped;
            case 7:
                return now.smudged;
            case 8:
                return now.mended;
            case 9:
                return now.filled;
            case 10:
                return input.length;
            case 11:
                return history.kept;
            default:
                if (!isWithin(what, 0, 5)) {
                    throw new IllegalArgumentException("what is not from 0 to 11");
                }
                return now.addedUp(what);
        }
    }

    public boolean isWell() {
        return now.isConsistent();
    }

    public double meanSign(int scroll) throws IndexOutOfBoundsException, ArithmeticException {
        Scroll found = existing(scroll);
        int seen = found.cells() - found.smudgedCells();
        if (seen <= 0) {
            throw new ArithmeticException("all are smudged");
        }
        return (double) found.allSigns() / (double) seen;
    }

    public float doubtShare(int scroll) throws IndexOutOfBoundsException {
        Scroll found = existing(scroll);
        int cells = found.cells();
        return cells <= 0 ? 0.0f : (float) found.doubtsByCell() / (float) cells;
    }

    public int undo() throws IllegalStateException {
        Shelf earlier = history.takeLatest();
        if (earlier == null) {
            throw new IllegalStateException("no change can be undone");
        }
        now.become(earlier);
        return history.kept;
    }

    public int save() {
        snapshot.become(now);
        hasSnapshot = true;
        return now.scrollCount;
    }

    public int restore() throws IllegalStateException {
        if (!hasSnapshot) {
            throw new IllegalStateException("there is no snapshot");
        }
        now.become(snapshot);
        history.forgetAll();
        return now.scrollCount;
    }

    // Ways to find what a call names

    private Scroll existing(int scroll) {
        Scroll found = now.find(scroll);
        if (found == null) {
            throw new IndexOutOfBoundsException("no such scroll");
        }
        return found;
    }

    private Scroll withRow(int scroll, int row) {
        Scroll found = existing(scroll);
        if (!found.hasRow(row)) {
            throw new IndexOutOfBoundsException("no such row");
        }
        return found;
    }

    private Scroll withColumn(int scroll, int column) {
        Scroll found = existing(scroll);
        if (!found.hasColumn(column)) {
            throw new IndexOutOfBoundsException("no such column");
        }
        return found;
    }

    private Scroll withCell(int scroll, int row, int column) {
        Scroll found = existing(scroll);
        if (!found.hasCell(row, column)) {
            throw new IndexOutOfBoundsException("no such row or column");
        }
        return found;
    }

    private static Scroll onlySealed(Scroll scroll) {
        if (!scroll.isSealed) {
            throw new NoSuchElementException("it is not sealed");
        }
        return scroll;
    }

    // Changes

    private int change(Deed deed, int scroll, int row, int column, int number) {
        stopFor(now.obstacleTo(deed, scroll, row, column, number));
        history.remember(now);
        return now.carryOut(deed, scroll, row, column, number);
    }

    /** Carries out one order of a text without an error, and answers the obstacle to it. */
    private int carryOutOrder(int start) {
        Deed deed = input.deedAt(start);
        if (deed == null) {
            return BAD_NUMBER;
        }
        int scroll = input.numberIn(start, deed, 0);
        int row = input.numberIn(start, deed, 1);
        int column = input.numberIn(start, deed, 2);
        int number = input.numberIn(start, deed, 3);
        int obstacle = now.obstacleTo(deed, scroll, row, column, number);
        if (obstacle == CLEAR) {
            now.carryOut(deed, scroll, row, column, number);
        }
        return obstacle;
    }

    private void stopFor(int obstacle) {
        if (obstacle == NO_PLACE) {
            throw new IndexOutOfBoundsException("no such scroll, row or column");
        }
        if (obstacle == BAD_NUMBER) {
            throw new IllegalArgumentException("a number is out of range, or an order cannot be carried out");
        }
        if (obstacle >= REFUSAL) {
            reason = obstacle / REFUSAL;
            detail = obstacle % REFUSAL;
            throw new UnsupportedOperationException("it is refused");
        }
    }

    private static int refused(int reason, int detail) {
        return REFUSAL * reason + detail;
    }

    private static boolean isWithin(int number, int least, int most) {
        return number >= least && number <= most;
    }

    // All entries of lists of numbers are read and put here, so that no index goes untested.

    private static int entry(int[] list, int index) {
        return index >= 0 && index < list.length ? list[index] : 0;
    }

    private static void put(int[] list, int index, int value) {
        if (index >= 0 && index < list.length) {
            list[index] = value;
        }
    }

    private static void add(int[] list, int index, int more) {
        if (index >= 0 && index < list.length) {
            list[index] += more;
        }
    }

    private static void clear(int[] list) {
        for (int index = 0; index < list.length; index++) {
            list[index] = 0;
        }
    }

    private static void transfer(int[] from, int[] to) {
        System.arraycopy(from, 0, to, 0, Math.min(from.length, to.length));
    }

    /** What can change the scrolls; the form of those that are orders of a text has # for each digit. */
    private enum Deed {
        SCROLL("", false),
        WRITE("w#:#,#=#", true),
        SLIP("e#:#,#+#", true),
        SMUDGE("x#:#,#", true),
        SEAL("s#", false),
        COPY("c#", false),
        MEND("m#", false),
        FILL("f#", false);

        private final String form;
        private final boolean isOfCell;

        Deed(String form, boolean isOfCell) {
            this.form = form;
            this.isOfCell = isOfCell;
        }
    }

    /**
     * One scroll. Its rows and columns are its bands: the rows are bands 0 to 5, the columns the bands from 6. The
     * sums and smudges of the bands are kept up to date by setSign, so that no call has to add up cells for them.
     */
    private static final class Scroll {
        private final int[] signs = new int[MAX_CELLS];
        private final int[] sums = new int[BANDS];
        private final int[] smudges = new int[BANDS];
        private final int[] toldSums = new int[BANDS];
        private int rows;
        private int columns;
        private boolean isSealed;
        private int original = NONE;
        private int mended;
        private int filled;

        void begin(int newRows, int newColumns) {
            rows = newRows;
            columns = newColumns;
            isSealed = false;
            original = NONE;
            mended = 0;
            filled = 0;
            clear(signs);
            clear(sums);
            clear(smudges);
            clear(toldSums);
        }

        void become(Scroll other) {
            rows = other.rows;
            columns = other.columns;
            isSealed = other.isSealed;
            original = other.original;
            mended = other.mended;
            filled = other.filled;
            transfer(other.signs, signs);
            transfer(other.sums, sums);
            transfer(other.smudges, smudges);
            transfer(other.toldSums, toldSums);
        }

        /** What was mended and filled in stays with the original. */
        void countAsCopyOf(int number) {
            original = number;
            mended = 0;
            filled = 0;
        }

        // Cells

        boolean hasRow(int row) {
            return row >= 0 && row < rows;
        }

        boolean hasColumn(int column) {
            return column >= 0 && column < columns;
        }

        boolean hasCell(int row, int column) {
            return hasRow(row) && hasColumn(column);
        }

        int cells() {
            return rows * columns;
        }

        int sign(int row, int column) {
            return entry(signs, row * MAX_COLUMNS + column);
        }

        boolean isSmudged(int row, int column) {
            return sign(row, column) == SMUDGED;
        }

        void setSign(int row, int column, int sign) {
            int cell = row * MAX_COLUMNS + column;
            int earlier = entry(signs, cell);
            int more = Math.max(0, sign) - Math.max(0, earlier);
            int moreSmudges = (sign == SMUDGED ? 1 : 0) - (earlier == SMUDGED ? 1 : 0);
            put(signs, cell, sign);
            add(sums, row, more);
            add(sums, MAX_ROWS + column, more);
            add(smudges, row, moreSmudges);
            add(smudges, MAX_ROWS + column, moreSmudges);
        }

        int replaceSign(int row, int column, int sign) {
            int earlier = sign(row, column);
            setSign(row, column, sign);
            return earlier;
        }

        int letSlip(int row, int column, int by) {
            int sign = (sign(row, column) + by) % SIGNS;
            setSign(row, column, sign);
            return sign;
        }

        int smudgedCells() {
            int cells = 0;
            for (int row = 0; row < rows; row++) {
                cells += entry(smudges, row);
            }
            return cells;
        }

        int allSigns() {
            int sum = 0;
            for (int row = 0; row < rows; row++) {
                sum += entry(sums, row);
            }
            return sum;
        }

        int howOften(int sign) {
            int times = 0;
            for (int row = 0; row < rows; row++) {
                for (int column = 0; column < columns; column++) {
                    times += sign(row, column) == sign ? 1 : 0;
                }
            }
            return times;
        }

        int differencesTo(Scroll other) {
            int differences = 0;
            for (int row = 0; row < rows; row++) {
                for (int column = 0; column < columns; column++) {
                    differences += sign(row, column) == other.sign(row, column) ? 0 : 1;
                }
            }
            return differences;
        }

        void writeRowOn(StringBuilder line, int row) {
            for (int column = 0; column < columns; column++) {
                line.append(isSmudged(row, column) ? '?' : (char) ('0' + sign(row, column)));
            }
            if (isSealed) {
                line.append('|');
                line.append((char) ('0' + toldSum(row)));
            }
            if (isWrong(row)) {
                line.append('!');
            }
        }

        // Told sums and faults of bands

        /** Tells the sums as they are now, and answers those of the rows, added. */
        int tellSums() {
            int ofRows = 0;
            for (int band = 0; band < BANDS; band++) {
                int sum = entry(sums, band) % SIGNS;
                put(toldSums, band, sum);
                ofRows += band < MAX_ROWS ? sum : 0;
            }
            isSealed = true;
            return ofRows;
        }

        int toldSum(int band) {
            return entry(toldSums, band);
        }

        int fault(int band) {
            return (entry(toldSums, band) - entry(sums, band) % SIGNS + SIGNS) % SIGNS;
        }

        /** Bands that the scroll does not have count too, and are never wrong: all their sums are 0. */
        boolean isWrong(int band) {
            return isSealed && entry(smudges, band) == 0 && entry(toldSums, band) != entry(sums, band) % SIGNS;
        }

        int rowsWrong() {
            int wrong = 0;
            for (int band = 0; band < MAX_ROWS; band++) {
                wrong += isWrong(band) ? 1 : 0;
            }
            return wrong;
        }

        int columnsWrong() {
            int wrong = 0;
            for (int band = MAX_ROWS; band < BANDS; band++) {
                wrong += isWrong(band) ? 1 : 0;
            }
            return wrong;
        }

        private int firstWrongFrom(int first) {
            for (int band = first; band < BANDS; band++) {
                if (isWrong(band)) {
                    return band;
                }
            }
            return NONE;
        }

        boolean isAllRight() {
            return firstWrongFrom(0) == NONE;
        }

        /** Compares the told sums with sums that are added up anew, cell by cell. */
        boolean hasToldSums() {
            for (int band = 0; band < BANDS; band++) {
                int sum = 0;
                for (int row = 0; row < rows; row++) {
                    for (int column = 0; column < columns; column++) {
                        sum += isInBand(row, column, band) ? sign(row, column) : 0;
                    }
                }
                if (sum % SIGNS != toldSum(band)) {
                    return false;
                }
            }
            return true;
        }

        private static boolean isInBand(int row, int column, int band) {
            return row == band || MAX_ROWS + column == band;
        }

        // Doubts

        boolean isDoubtful(int row, int column) {
            return sign(row, column) == SMUDGED || isWrong(row) && isWrong(MAX_ROWS + column);
        }

        int doubtsByCell() {
            int doubtful = 0;
            for (int row = 0; row < rows; row++) {
                for (int column = 0; column < columns; column++) {
                    doubtful += isDoubtful(row, column) ? 1 : 0;
                }
            }
            return doubtful;
        }

        int doubtsByProduct() {
            return smudgedCells() + rowsWrong() * columnsWrong();
        }

        // What stands in the way of a change

        int obstacleToSealing() {
            int smudged = smudgedCells();
            return smudged > 0 ? refused(CELLS_SMUDGED, smudged) : CLEAR;
        }

        int obstacleToTouching(int row, int column) {
            return isSmudged(row, column) ? refused(CELL_SMUDGED, 10 * row + column) : CLEAR;
        }

        int obstacleToFilling(int number) {
            return isSealed ? CLEAR : refused(NOT_SEALED, number);
        }

        int obstacleToMending(int number) {
            if (!isSealed) {
                return refused(NOT_SEALED, number);
            }
            int smudged = smudgedCells();
            if (smudged > 0) {
                return refused(CELLS_SMUDGED, smudged);
            }
            int rowsWrong = rowsWrong();
            int columnsWrong = columnsWrong();
            if (rowsWrong == 0 && columnsWrong == 0) {
                return refused(NOTHING_WRONG, 0);
            }
            if (rowsWrong != 1 || columnsWrong != 1) {
                return refused(NOT_JUST_ONE_EACH, 10 * rowsWrong + columnsWrong);
            }
            int rowFault = fault(firstWrongFrom(0));
            int columnFault = fault(firstWrongFrom(MAX_ROWS));
            return rowFault == columnFault ? CLEAR : refused(FAULTS_DIFFER, 10 * rowFault + columnFault);
        }

        // Mending and filling in

        /** Answers 10 times the row and the column of the cell in the first wrong row and the first wrong column. */
        int cellToMend() {
            return 10 * firstWrongFrom(0) + firstWrongFrom(MAX_ROWS) - MAX_ROWS;
        }

        int mendCell() {
            int row = firstWrongFrom(0);
            int column = firstWrongFrom(MAX_ROWS) - MAX_ROWS;
            letSlip(row, column, fault(row));
            mended++;
            return 10 * row + column;
        }

        /** Tries signs in the cells of this very scroll, so it is called on the scroll for trying alone. */
        int findMendByTrying() {
            for (int row = 0; row < rows; row++) {
                for (int column = 0; column < columns; column++) {
                    if (isMendedByCell(row, column)) {
                        return 10 * row + column;
                    }
                }
            }
            return NONE;
        }

        private boolean isMendedByCell(int row, int column) {
            int sign = sign(row, column);
            boolean isMended = false;
            for (int other = 0; other <= MAX_SIGN && !isMended; other++) {
                setSign(row, column, other);
                isMended = other != sign && isAllRight();
            }
            setSign(row, column, sign);
            return isMended;
        }

        int fillCells() {
            int cells = 0;
            int band = bandToFill();
            while (cells < MAX_CELLS && band != NONE) {
                fillBand(band);
                cells++;
                band = bandToFill();
            }
            filled += cells;
            return cells;
        }

        private int bandToFill() {
            for (int band = 0; band < BANDS; band++) {
                if (entry(smudges, band) == 1) {
                    return band;
                }
            }
            return NONE;
        }

        /** Fills in the only smudged cell of a band. */
        private void fillBand(int band) {
            int sign = fault(band);
            for (int row = 0; row < rows; row++) {
                for (int column = 0; column < columns; column++) {
                    if (isInBand(row, column, band) && sign(row, column) == SMUDGED) {
                        setSign(row, column, sign);
                    }
                }
            }
        }
    }

    /** All that changes can change: the scrolls and what happened to them so far. */
    private static final class Shelf {
        private final Scroll[] scrolls = new Scroll[MAX_SCROLLS];
        private int scrollCount;
        private int slipped;
        private int smudged;
        private int mended;
        private int filled;

        Shelf() {
            for (int number = 0; number < scrolls.length; number++) {
                scrolls[number] = new Scroll();
            }
        }

        void become(Shelf other) {
            scrollCount = other.scrollCount;
            slipped = other.slipped;
            smudged = other.smudged;
            mended = other.mended;
            filled = other.filled;
            for (int number = 0; number < scrollCount; number++) {
                Scroll mine = find(number);
                Scroll theirs = other.find(number);
                if (mine != null && theirs != null) {
                    mine.become(theirs);
                }
            }
        }

        /** Answers a scroll, or null if there is no such scroll. */
        Scroll find(int number) {
            return number >= 0 && number < scrollCount && number < scrolls.length ? scrolls[number] : null;
        }

        // What stands in the way of a change, and the change

        int obstacleTo(Deed deed, int scroll, int row, int column, int number) {
            if (deed == Deed.SCROLL) {
                return obstacleToBeginning(row, column);
            }
            Scroll target = find(scroll);
            if (target == null || deed.isOfCell && !target.hasCell(row, column)) {
                return NO_PLACE;
            }
            switch (deed) {
                case WRITE:
                    return isWithin(number, 0, MAX_SIGN) ? CLEAR : BAD_NUMBER;
                case SLIP:
                    return isWithin(number, 1, MAX_SIGN) ? target.obstacleToTouching(row, column) : BAD_NUMBER;
                case SMUDGE:
                    return target.obstacleToTouching(row, column);
                case SEAL:
                    return target.obstacleToSealing();
                case COPY:
                    return obstacleToAdding();
                case MEND:
                    return target.obstacleToMending(scroll);
                default:
                    return target.obstacleToFilling(scroll);
            }
        }

        private int obstacleToBeginning(int rows, int columns) {
            if (!isWithin(rows, 1, MAX_ROWS) || !isWithin(columns, 1, MAX_COLUMNS)) {
                return BAD_NUMBER;
            }
            return obstacleToAdding();
        }

        private int obstacleToAdding() {
            return scrollCount >= MAX_SCROLLS ? refused(SHELF_FULL, MAX_SCROLLS) : CLEAR;
        }

        /** Carries out what has no obstacle, and answers what the call for it returns. */
        int carryOut(Deed deed, int scroll, int row, int column, int number) {
            if (deed == Deed.SCROLL) {
                return beginScroll(row, column);
            }
            Scroll target = find(scroll);
            if (target == null) {
                return NONE;
            }
            switch (deed) {
                case WRITE:
                    return target.replaceSign(row, column, number);
                case SLIP:
                    slipped++;
                    return target.letSlip(row, column, number);
                case SMUDGE:
                    smudged++;
                    target.setSign(row, column, SMUDGED);
                    return target.smudgedCells();
                case SEAL:
                    return target.tellSums();
                case COPY:
                    return addCopy(target, scroll);
                case MEND:
                    mended++;
                    return target.mendCell();
                default:
                    int cells = target.fillCells();
                    filled += cells;
                    return cells;
            }
        }

        private int beginScroll(int rows, int columns) {
            scrollCount++;
            Scroll added = find(scrollCount - 1);
            if (added != null) {
                added.begin(rows, columns);
            }
            return scrollCount - 1;
        }

        private int addCopy(Scroll original, int number) {
            scrollCount++;
            Scroll added = find(scrollCount - 1);
            if (added != null) {
                added.become(original);
                added.countAsCopyOf(number);
            }
            return scrollCount - 1;
        }

        // The order of doubts

        int numberAtRank(int place) {
            for (int number = 0; number < scrollCount; number++) {
                int ahead = 0;
                for (int other = 0; other < scrollCount; other++) {
                    ahead += rankKey(other) < rankKey(number) ? 1 : 0;
                }
                if (ahead == place) {
                    return number;
                }
            }
            return NONE;
        }

        /** Answers what is the lower, the further ahead a scroll stands: by doubts, then by cells, then by number. */
        private int rankKey(int number) {
            Scroll scroll = find(number);
            if (scroll == null) {
                return NONE;
            }
            return (100 * scroll.doubtsByProduct() + MAX_CELLS - scroll.cells()) * 10 + number;
        }

        // Accounts

        /** Answers one of the accounts 0 to 5, which are added up scroll by scroll. */
        int addedUp(int what) {
            int sum = 0;
            for (int number = 0; number < scrollCount; number++) {
                Scroll scroll = find(number);
                sum += scroll == null ? 0 : share(scroll, what);
            }
            return sum;
        }

        private static int share(Scroll scroll, int what) {
            switch (what) {
                case 0:
                    return 1;
                case 1:
                    return scroll.isSealed ? 1 : 0;
                case 2:
                    return scroll.original == NONE ? 0 : 1;
                case 3:
                    return scroll.cells();
                case 4:
                    return scroll.smudgedCells();
                default:
                    return scroll.doubtsByCell();
            }
        }

        boolean isConsistent() {
            int mendedInAll = 0;
            int filledInAll = 0;
            boolean haveToldSums = true;
            for (int number = 0; number < scrollCount; number++) {
                Scroll scroll = find(number);
                if (scroll != null) {
                    mendedInAll += scroll.mended;
                    filledInAll += scroll.filled;
                    boolean isFlawless = scroll.isSealed && scroll.smudgedCells() == 0 && scroll.isAllRight();
                    haveToldSums = haveToldSums && (!isFlawless || scroll.hasToldSums());
                }
            }
            return haveToldSums && mendedInAll == mended && filledInAll == filled;
        }
    }

    /** The shelves as they were ahead of the latest changes, the oldest first. */
    private static final class History {
        private final Shelf[] shelves = new Shelf[MAX_UNDO];
        private int kept;

        History() {
            for (int at = 0; at < shelves.length; at++) {
                shelves[at] = new Shelf();
            }
        }

        void remember(Shelf shelf) {
            if (kept >= shelves.length) {
                moveOldestBehind();
                kept = shelves.length - 1;
            }
            Shelf free = shelfAt(kept);
            if (free != null) {
                free.become(shelf);
                kept++;
            }
        }

        /** Answers the latest shelf, which counts as free from then on, or null if none is kept. */
        Shelf takeLatest() {
            if (kept <= 0) {
                return null;
            }
            kept--;
            return shelfAt(kept);
        }

        void forgetAll() {
            kept = 0;
        }

        private Shelf shelfAt(int index) {
            return index >= 0 && index < shelves.length ? shelves[index] : null;
        }

        private void moveOldestBehind() {
            Shelf carried = shelfAt(0);
            for (int at = shelves.length - 1; at >= 0; at--) {
                Shelf stood = shelves[at];
                shelves[at] = carried;
                carried = stood;
            }
        }
    }

    /** The characters of a text that is not read yet. */
    private static final class Input {
        private final char[] characters = new char[MAX_INPUT];
        private int length;

        boolean isFull() {
            return length >= characters.length;
        }

        void add(char c) {
            if (length >= 0 && length < characters.length) {
                characters[length] = c;
                length++;
            }
        }

        void empty() {
            length = 0;
        }

        /** Answers the error position of the text, NONE if it has no error. */
        int firstError() {
            int start = 0;
            for (int order = 0; order < MAX_INPUT && start < length; order++) {
                Deed deed = deedAt(start);
                if (deed == null) {
                    return start;
                }
                int misfit = firstMisfit(start, deed.form);
                if (misfit != NONE) {
                    return misfit;
                }
                int end = start + deed.form.length();
                if (end == length) {
                    return NONE;
                }
                if (!isAt(end, ';')) {
                    return end;
                }
                start = end + 1;
            }
            return start;
        }

        private int firstMisfit(int start, String form) {
            for (int at = 0; at < form.length(); at++) {
                char due = form.charAt(at);
                boolean fits = due == '#' ? isDigitAt(start + at) : isAt(start + at, due);
                if (!fits) {
                    return start + at;
                }
            }
            return NONE;
        }

        /** Answers what the order that starts here does, or null if no order starts so. */
        Deed deedAt(int start) {
            for (Deed deed : DEEDS) {
                if (!deed.form.isEmpty() && isAt(start, deed.form.charAt(0))) {
                    return deed;
                }
            }
            return null;
        }

        /** Answers a number of an order, 0 if its form has not as many: they stand at every second place. */
        int numberIn(int start, Deed deed, int which) {
            int place = 2 * which + 1;
            if (place >= deed.form.length() || !isDigitAt(start + place)) {
                return 0;
            }
            return at(start + place) - '0';
        }

        int startOfNext(int start) {
            Deed deed = deedAt(start);
            return deed == null ? length : start + deed.form.length() + 1;
        }

        /** Answers a character, behind the end one that no order has. */
        private char at(int index) {
            return index >= 0 && index < length && index < characters.length ? characters[index] : (char) 0;
        }

        private boolean isAt(int index, char due) {
            return index < length && at(index) == due;
        }

        private boolean isDigitAt(int index) {
            return at(index) >= '0' && at(index) <= '9';
        }
    }
}
