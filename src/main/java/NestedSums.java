import java.util.Arrays;

/**
 * Nested tables: cells with numbers, words, sums or whole tables, sums that count each cell once, rules on edges,
 * widths, heights, pages, orders as a text, and undo.
 */
public final class NestedSums {
    /** There is nothing to return. */
    public static final int NONE = -1;

    private static final int MOST_TABLES = 5;
    private static final int MOST_LINES = 5;
    private static final int TABLE_SQUARES = MOST_LINES * MOST_LINES;
    private static final int ALL_SQUARES = MOST_TABLES * TABLE_SQUARES;
    private static final int MOST_SAVED = 6;
    private static final int MOST_SIGNS = 60;
    private static final int MOST_HEIGHT = 60;
    private static final int FIRST_HEIGHT = 10;
    private static final int FIRST_LINES = 3;
    private static final int MOST_NUMBER = 999;
    private static final int MOST_WIDTH = 12;
    private static final int MOST_RULE = 3;

    private static final int EMPTY = 0;
    private static final int NUMBER = 1;
    private static final int WORD = 2;
    private static final int TABLE = 3;
    private static final int COLUMN_SUM = 4;
    private static final int ROW_SUM = 5;
    private static final int TABLE_SUM = 6;

    private static final int ABOVE = 0;
    private static final int RIGHT = 1;
    private static final int BELOW = 2;
    private static final int LEFT = 3;
    private static final int SIDES = 4;

    /** The two ways in which a table goes on: columns follow each other across, rows down. */
    private static final int ACROSS = 0;
    private static final int DOWN = 1;
    private static final int WAYS = 2;

    private static final int CELL_PROPERTIES = 12;
    private static final int TABLE_PROPERTIES = 8;
    private static final int COUNTS = 13;
    private static final int TRIAL_ANSWERS = 3;

    private final Layout layout = new Layout();
    private final Sheet sheet = layout.sheet;
    private final Layout trial = new Layout();
    private final History history = new History();
    private final OrderText buffer = new OrderText();

    public NestedSums() {
        sheet.startAnew(FIRST_LINES, FIRST_LINES);
        layout.measure();
    }

    // ---- tables

    public int begin(int rows, int columns) throws IllegalArgumentException {
        requireLines(rows, columns);
        history.save(sheet);
        sheet.startAnew(rows, columns);
        layout.measure();
        return rows * columns;
    }

    public int nest(int table, int row, int column, int rows, int columns)
            throws IndexOutOfBoundsException, IllegalArgumentException, IllegalStateException {
        int square = requireSquare(table, row, column);
        requireLines(rows, columns);
        if (!sheet.isCell(square) || sheet.kinds.at(square) != EMPTY || sheet.tables >= MOST_TABLES) {
            throw new IllegalStateException();
        }
        history.save(sheet);
        int inner = sheet.addTable(square, rows, columns);
        layout.measure();
        return inner;
    }

    public int put(int table, int row, int column, int kind, int number)
            throws IndexOutOfBoundsException, IllegalArgumentException, IllegalStateException {
        int square = requireSquare(table, row, column);
        if (!isContent(kind, number)) {
            throw new IllegalArgumentException();
        }
        if (!sheet.canFill(square)) {
            throw new IllegalStateException();
        }
        history.save(sheet);
        int previous = sheet.fill(square, kind, number);
        layout.measure();
        return previous;
    }

    public int span(int table, int row, int column, int rows, int columns)
            throws IndexOutOfBoundsException, IllegalArgumentException, IllegalStateException {
        int square = requireSquare(table, row, column);
        boolean areLines = isBetween(rows, 1, MOST_LINES) && isBetween(columns, 1, MOST_LINES);
        if (areLines && sheet.squareAt(table, row + rows - 1, column + columns - 1) == NONE) {
            throw new IndexOutOfBoundsException();
        }
        requireLines(rows, columns);
        if (!sheet.isCell(square) || !sheet.canCover(square, rows, columns)) {
            throw new IllegalStateException();
        }
        history.save(sheet);
        sheet.cover(square, rows, columns);
        layout.measure();
        return rows * columns;
    }

    public int rule(int table, int row, int column, int side, int rule)
            throws IndexOutOfBoundsException, IllegalArgumentException, IllegalStateException {
        int square = requireSquare(table, row, column);
        requireBetween(side, 0, SIDES - 1);
        requireBetween(rule, 0, MOST_RULE);
        if (!sheet.isCell(square)) {
            throw new IllegalStateException();
        }
        history.save(sheet);
        int place = square * SIDES + side;
        int previous = sheet.rules.at(place);
        sheet.rules.store(place, rule);
        layout.measure();
        return previous;
    }

    public int set(int height) throws IllegalArgumentException {
        requireBetween(height, 1, MOST_HEIGHT);
        history.save(sheet);
        int previous = sheet.pageHeight;
        sheet.pageHeight = height;
        return previous;
    }

    // ---- texts

    public int append(int code) throws IllegalArgumentException, IllegalStateException {
        requireBetween(code, 33, 126);
        if (buffer.length >= MOST_SIGNS) {
            throw new IllegalStateException();
        }
        buffer.add(code);
        return buffer.length;
    }

    public int clearBuffer() {
        int length = buffer.length;
        buffer.length = 0;
        return length;
    }

    public int firstError() {
        return buffer.firstFault();
    }

    public int run() throws IllegalArgumentException {
        if (!buffer.isOrders()) {
            throw new IllegalArgumentException();
        }
        history.save(sheet);
        int done = 0;
        int start = 0;
        for (int place = 0; place <= buffer.length; place++) {
            if (buffer.isOrderEnd(place)) {
                if (!fillByOrder(start, place)) {
                    break;
                }
                done++;
                start = place + 1;
            }
        }
        buffer.length = 0;
        layout.measure();
        return done;
    }

    public int undo() throws IllegalStateException {
        if (history.saved <= 0) {
            throw new IllegalStateException();
        }
        history.takeBack(sheet);
        layout.measure();
        return history.saved;
    }

    // ---- looks; nothing is changed

    public int cell(int table, int row, int column, int what)
            throws IndexOutOfBoundsException, IllegalArgumentException {
        int square = requireSquare(table, row, column);
        requireBetween(what, 0, CELL_PROPERTIES - 1);
        return cellProperty(square, what);
    }

    public int edge(int table, int row, int column, int side)
            throws IndexOutOfBoundsException, IllegalArgumentException {
        int square = requireSquare(table, row, column);
        requireBetween(side, 0, SIDES - 1);
        return layout.edges.at(square * SIDES + side);
    }

    public int table(int table, int what) throws IndexOutOfBoundsException, IllegalArgumentException {
        requireTable(table);
        requireBetween(what, 0, TABLE_PROPERTIES - 1);
        return tableProperty(table, what);
    }

    public int size(int table, boolean isRow, int number) throws IndexOutOfBoundsException {
        requireTable(table);
        int way = isRow ? DOWN : ACROSS;
        if (number < 0 || number >= sheet.linesOf(table, way)) {
            throw new IndexOutOfBoundsException();
        }
        return layout.sizeOf(table, way, number);
    }

    public int page(int row) throws IndexOutOfBoundsException {
        if (row < 0 || row >= sheet.linesOf(0, DOWN)) {
            throw new IndexOutOfBoundsException();
        }
        return layout.pageOf(row, sheet.pageHeight);
    }

    public int count(int what) throws IllegalArgumentException {
        requireBetween(what, 0, COUNTS - 1);
        switch (what) {
            case 0:
                return sheet.tables;
            case 1:
                return sheet.countCells();
            case 9:
                return layout.countPages(sheet.pageHeight);
            case 10:
                return layout.countEdges();
            case 11:
                return sheet.countSquares() - sheet.countCells();
            case 12:
                return history.saved;
            default:
                return sheet.countKind(what - 2);
        }
    }

    // ---- what would be; nothing is changed

    public int ifPut(int table, int row, int column, int number, int what)
            throws IndexOutOfBoundsException, IllegalArgumentException {
        int square = requireSquare(table, row, column);
        requireBetween(number, -MOST_NUMBER, MOST_NUMBER);
        requireBetween(what, 0, TRIAL_ANSWERS - 1);
        return tryNumber(square, number) ? trialAnswer(square, what) : NONE;
    }

    public int countedBy(int table, int row, int column) throws IndexOutOfBoundsException {
        int square = requireSquare(table, row, column);
        return countingSums(square);
    }

    public int heightFor(int pages) throws IllegalArgumentException {
        requireBetween(pages, 1, MOST_LINES);
        for (int height = 1; height <= MOST_HEIGHT; height++) {
            if (layout.countPages(height) <= pages) {
                return height;
            }
        }
        return NONE;
    }

    public double filledShare() {
        int cells = sheet.countCells();
        int filled = cells - sheet.countKind(EMPTY);
        return cells > 0 ? (double) filled / cells : 0.0;
    }

    public long digest() {
        long hash = 2887;
        for (int what = 0; what < COUNTS; what++) {
            hash = mix(hash, count(what));
        }
        hash = mix(hash, sheet.pageHeight);
        for (int table = 0; table < sheet.tables; table++) {
            hash = mixTable(hash, table);
        }
        for (int row = 0; row < sheet.linesOf(0, DOWN); row++) {
            hash = mix(hash, page(row));
        }
        boolean isTried = tryNumber(0, 77);
        for (int what = 0; what < TRIAL_ANSWERS; what++) {
            hash = mix(hash, isTried ? trialAnswer(0, what) : NONE);
        }
        hash = mix(hash, heightFor(1));
        hash = mix(hash, heightFor(2));
        hash = mix(hash, bitsOf(filledShare()));
        hash = mix(hash, buffer.length);
        for (int place = 0; place < buffer.length; place++) {
            hash = mix(hash, buffer.codes.at(place));
        }
        return hash;
    }

    // ---- what the calls share

    private static boolean isBetween(int number, int least, int most) {
        return number >= least && number <= most;
    }

    private static void requireBetween(int number, int least, int most) {
        if (!isBetween(number, least, most)) {
            throw new IllegalArgumentException();
        }
    }

    private static void requireLines(int rows, int columns) {
        requireBetween(rows, 1, MOST_LINES);
        requireBetween(columns, 1, MOST_LINES);
    }

    private void requireTable(int table) {
        if (!sheet.hasTable(table)) {
            throw new IndexOutOfBoundsException();
        }
    }

    private int requireSquare(int table, int row, int column) {
        int square = sheet.squareAt(table, row, column);
        if (square == NONE) {
            throw new IndexOutOfBoundsException();
        }
        return square;
    }

    private static boolean isContent(int kind, int number) {
        switch (kind) {
            case NUMBER:
                return isBetween(number, -MOST_NUMBER, MOST_NUMBER);
            case WORD:
                return isBetween(number, 1, MOST_WIDTH);
            default:
                return kind == EMPTY || isSum(kind);
        }
    }

    private static boolean isSum(int kind) {
        return kind == COLUMN_SUM || kind == ROW_SUM || kind == TABLE_SUM;
    }

    private boolean fillByOrder(int start, int end) {
        int square = sheet.squareAt(buffer.tableAt(start), buffer.rowAt(start), buffer.columnAt(start));
        int kind = buffer.kindAt(start);
        int number = buffer.numberAt(start, end);
        if (square == NONE || !isContent(kind, number) || !sheet.canFill(square)) {
            return false;
        }
        sheet.fill(square, kind, number);
        return true;
    }

    private int cellProperty(int square, int what) {
        if (!sheet.isCell(square)) {
            return NONE;
        }
        switch (what) {
            case 0:
                return sheet.kinds.at(square);
            case 1:
                return layout.values.at(square);
            case 2:
                return layout.shown.at(square);
            case 3:
                return sheet.spanOf(square, DOWN);
            case 4:
                return sheet.spanOf(square, ACROSS);
            case 5:
                return layout.wants.at(square * WAYS + ACROSS);
            case 6:
                return layout.wants.at(square * WAYS + DOWN);
            case 7:
                return sheet.tableWithin(square);
            default:
                return layout.rules.at(square * SIDES + what - 8);
        }
    }

    private int tableProperty(int table, int what) {
        switch (what) {
            case 0:
                return sheet.linesOf(table, DOWN);
            case 1:
                return sheet.linesOf(table, ACROSS);
            case 2:
                return layout.tableValues.at(table);
            case 3:
                return layout.tableSizes.at(table * WAYS + ACROSS);
            case 4:
                return layout.tableSizes.at(table * WAYS + DOWN);
            case 5:
                return layout.drawn.at(table * WAYS + ACROSS);
            case 6:
                return layout.drawn.at(table * WAYS + DOWN);
            default:
                return table == 0 ? NONE : tableOf(sheet.homes.at(table));
        }
    }

    /** Measures the sheet with a number in a cell; false if the square can't be asked for. */
    private boolean tryNumber(int square, int number) {
        if (!sheet.isCell(square) || sheet.kinds.at(square) == TABLE) {
            return false;
        }
        trial.sheet.copyFrom(sheet);
        trial.sheet.fill(square, NUMBER, number);
        trial.measure();
        return true;
    }

    private int trialAnswer(int square, int what) {
        switch (what) {
            case 0:
                return trial.tableValues.at(0);
            case 1:
                return countChangedSums(square);
            default:
                return trial.tableSizes.at(ACROSS);
        }
    }

    private int countChangedSums(int triedSquare) {
        int changed = 0;
        for (int square = 0; square < sheet.squaresEnd(); square++) {
            boolean isOtherSum = square != triedSquare && sheet.isCell(square) && isSum(sheet.kinds.at(square));
            if (isOtherSum && layout.shown.at(square) != trial.shown.at(square)) {
                changed++;
            }
        }
        return changed;
    }

    private int countingSums(int square) {
        if (!sheet.isCell(square)) {
            return NONE;
        }
        if (isSum(sheet.kinds.at(square))) {
            return 0;
        }
        int counting = 0;
        int counted = square;
        for (int level = 0; level < MOST_TABLES && counted != NONE; level++) {
            counting += layout.countSumsOf(counted);
            counted = sheet.homes.at(tableOf(counted));
        }
        return counting;
    }

    private static long mix(long hash, long value) {
        return 31 * hash + value;
    }

    private long mixTable(long before, int table) {
        long hash = before;
        for (int what = 0; what < TABLE_PROPERTIES; what++) {
            hash = mix(hash, tableProperty(table, what));
        }
        for (int way = ACROSS; way <= DOWN; way++) {
            for (int line = 0; line < sheet.linesOf(table, way); line++) {
                hash = mix(hash, layout.sizeOf(table, way, line));
            }
        }
        for (int row = 0; row < sheet.linesOf(table, DOWN); row++) {
            for (int column = 0; column < sheet.linesOf(table, ACROSS); column++) {
                hash = mixSquare(hash, sheet.squareAt(table, row, column));
            }
        }
        return hash;
    }

    private long mixSquare(long before, int square) {
        long hash = before;
        for (int what = 0; what < CELL_PROPERTIES; what++) {
            hash = mix(hash, cellProperty(square, what));
        }
        for (int side = 0; side < SIDES; side++) {
            hash = mix(hash, layout.edges.at(square * SIDES + side));
        }
        return mix(hash, countingSums(square));
    }

    /**
     * The bits of a share of 0 to 1, as Double.doubleToLongBits tells them, which LANGUAGE.md does not list: doubling
     * is exact, so the share is brought to 1 up to 2, and what is above 1 is the fraction's 52 bits.
     */
    private static long bitsOf(double share) {
        if (!(share > 0.0)) {
            return 0L;
        }
        double scaled = share;
        long exponent = 1023;
        for (int step = 0; step < 1022 && scaled < 1.0; step++) {
            scaled = scaled * 2.0;
            exponent--;
        }
        return (exponent << 52) + (long) ((scaled - 1.0) * 4503599627370496.0);
    }

    // Squares are numbered through all tables, 25 to a table and 5 to a row, also in tables that have fewer: so a
    // square keeps its number whatever the table's size, and ascending numbers are ascending rows, then columns.

    private static int tableOf(int square) {
        return square / TABLE_SQUARES;
    }

    private static int placeOf(int square, int way) {
        return way == DOWN ? square % TABLE_SQUARES / MOST_LINES : square % MOST_LINES;
    }

    private static int signsOf(int number) {
        int signs = number < 0 ? 2 : 1;
        int rest = number / 10;
        for (int more = 0; more < 10 && rest != 0; more++) {
            rest = rest / 10;
            signs++;
        }
        return signs;
    }

    /** A row of numbers. A place outside it reads as 0 and keeps nothing, so that no index ever fails. */
    private static final class Numbers {
        private final int[] values;

        Numbers(int length) {
            values = new int[Math.max(0, length)];
        }

        int at(int place) {
            return place >= 0 && place < values.length ? values[place] : 0;
        }

        void store(int place, int value) {
            if (place >= 0 && place < values.length) {
                values[place] = value;
            }
        }

        void copyFrom(Numbers other) {
            System.arraycopy(other.values, 0, values, 0, Math.min(values.length, other.values.length));
        }

        void clear() {
            Arrays.fill(values, 0);
        }
    }

    /** The state that undo brings back: the setting, and what the tables hold. */
    private static final class Sheet {
        private int pageHeight = FIRST_HEIGHT;
        private int tables;
        private final Numbers lines = new Numbers(MOST_TABLES * WAYS);
        /** The square of the cell in which a table is; NONE for the table 0. */
        private final Numbers homes = new Numbers(MOST_TABLES);
        /** The cell that covers a square; NONE for a square that its table does not have. */
        private final Numbers owners = new Numbers(ALL_SQUARES);
        private final Numbers kinds = new Numbers(ALL_SQUARES);
        /** The number, the width of the word, or the number of the table that is in a cell; otherwise 0. */
        private final Numbers contents = new Numbers(ALL_SQUARES);
        private final Numbers spans = new Numbers(ALL_SQUARES * WAYS);
        private final Numbers rules = new Numbers(ALL_SQUARES * SIDES);

        void copyFrom(Sheet other) {
            pageHeight = other.pageHeight;
            tables = other.tables;
            lines.copyFrom(other.lines);
            homes.copyFrom(other.homes);
            owners.copyFrom(other.owners);
            kinds.copyFrom(other.kinds);
            contents.copyFrom(other.contents);
            spans.copyFrom(other.spans);
            rules.copyFrom(other.rules);
        }

        void startAnew(int rows, int columns) {
            tables = 0;
            layOut(NONE, rows, columns);
        }

        int addTable(int home, int rows, int columns) {
            int table = tables;
            kinds.store(home, TABLE);
            contents.store(home, table);
            layOut(home, rows, columns);
            return table;
        }

        private void layOut(int home, int rows, int columns) {
            int table = tables;
            tables++;
            lines.store(table * WAYS + DOWN, rows);
            lines.store(table * WAYS + ACROSS, columns);
            homes.store(table, home);
            for (int square = table * TABLE_SQUARES; square < squaresEnd(); square++) {
                makeEmpty(square);
                if (placeOf(square, DOWN) >= rows || placeOf(square, ACROSS) >= columns) {
                    owners.store(square, NONE);
                }
            }
        }

        private void makeEmpty(int square) {
            owners.store(square, square);
            kinds.store(square, EMPTY);
            contents.store(square, 0);
            spans.store(square * WAYS + DOWN, 1);
            spans.store(square * WAYS + ACROSS, 1);
            for (int side = 0; side < SIDES; side++) {
                rules.store(square * SIDES + side, 0);
            }
        }

        boolean hasTable(int table) {
            return table >= 0 && table < tables;
        }

        int squareAt(int table, int row, int column) {
            boolean isThere = hasTable(table) && row >= 0 && row < linesOf(table, DOWN)
                    && column >= 0 && column < linesOf(table, ACROSS);
            return isThere ? table * TABLE_SQUARES + row * MOST_LINES + column : NONE;
        }

        int linesOf(int table, int way) {
            return lines.at(table * WAYS + way);
        }

        int spanOf(int square, int way) {
            return spans.at(square * WAYS + way);
        }

        boolean isCell(int square) {
            return square != NONE && owners.at(square) == square;
        }

        int tableWithin(int square) {
            return kinds.at(square) == TABLE ? contents.at(square) : NONE;
        }

        int squaresEnd() {
            return tables * TABLE_SQUARES;
        }

        /** The cell that covers the square beside a square; NONE at the border. */
        int ownerBeside(int square, int side) {
            int row = placeOf(square, DOWN) + (side == BELOW ? 1 : 0) - (side == ABOVE ? 1 : 0);
            int column = placeOf(square, ACROSS) + (side == RIGHT ? 1 : 0) - (side == LEFT ? 1 : 0);
            boolean isNumbered = isBetween(row, 0, MOST_LINES - 1) && isBetween(column, 0, MOST_LINES - 1);
            int first = tableOf(square) * TABLE_SQUARES;
            return isNumbered ? owners.at(first + row * MOST_LINES + column) : NONE;
        }

        /** A table with a greater number may be in it or behind it, so only the last one may go. */
        boolean canFill(int square) {
            return isCell(square) && (kinds.at(square) != TABLE || contents.at(square) == tables - 1);
        }

        int fill(int square, int kind, int number) {
            int previous = kinds.at(square);
            if (previous == TABLE) {
                tables--;
            }
            kinds.store(square, kind);
            contents.store(square, kind == NUMBER || kind == WORD ? number : 0);
            return previous;
        }

        boolean canCover(int cell, int rows, int columns) {
            for (int row = 0; row < rows; row++) {
                for (int column = 0; column < columns; column++) {
                    int owner = owners.at(cell + row * MOST_LINES + column);
                    if (owner != cell && !isSingleEmpty(owner)) {
                        return false;
                    }
                }
            }
            return true;
        }

        private boolean isSingleEmpty(int cell) {
            return kinds.at(cell) == EMPTY && spanOf(cell, DOWN) == 1 && spanOf(cell, ACROSS) == 1;
        }

        void cover(int cell, int rows, int columns) {
            giveSquares(cell, spanOf(cell, DOWN), spanOf(cell, ACROSS), false);
            giveSquares(cell, rows, columns, true);
            spans.store(cell * WAYS + DOWN, rows);
            spans.store(cell * WAYS + ACROSS, columns);
        }

        /** Empties all squares of a rectangle but the cell's own one, and gives them to it, or to themselves. */
        private void giveSquares(int cell, int rows, int columns, boolean toCell) {
            for (int row = 0; row < rows; row++) {
                for (int column = 0; column < columns; column++) {
                    int square = cell + row * MOST_LINES + column;
                    if (square != cell) {
                        makeEmpty(square);
                        owners.store(square, toCell ? cell : square);
                    }
                }
            }
        }

        int countSquares() {
            int squares = 0;
            for (int table = 0; table < tables; table++) {
                squares += linesOf(table, DOWN) * linesOf(table, ACROSS);
            }
            return squares;
        }

        int countCells() {
            int cells = 0;
            for (int square = 0; square < squaresEnd(); square++) {
                cells += isCell(square) ? 1 : 0;
            }
            return cells;
        }

        int countKind(int kind) {
            int cells = 0;
            for (int square = 0; square < squaresEnd(); square++) {
                cells += isCell(square) && kinds.at(square) == kind ? 1 : 0;
            }
            return cells;
        }
    }

    /** A sheet, and what follows from it: values, sums, rules, widths, heights and pages. */
    private static final class Layout {
        private final Sheet sheet = new Sheet();
        private final Numbers values = new Numbers(ALL_SQUARES);
        private final Numbers shown = new Numbers(ALL_SQUARES);
        /** The least row or column that a column sum or row sum counts: that of the nearest sum before it. */
        private final Numbers starts = new Numbers(ALL_SQUARES);
        /** The width and height of what is in a cell. */
        private final Numbers wants = new Numbers(ALL_SQUARES * WAYS);
        private final Numbers rules = new Numbers(ALL_SQUARES * SIDES);
        private final Numbers edges = new Numbers(ALL_SQUARES * SIDES);
        private final Numbers sizes = new Numbers(MOST_TABLES * WAYS * MOST_LINES);
        private final Numbers drawn = new Numbers(MOST_TABLES * WAYS);
        private final Numbers tableSizes = new Numbers(MOST_TABLES * WAYS);
        private final Numbers tableValues = new Numbers(MOST_TABLES);

        int sizeOf(int table, int way, int line) {
            return sizes.at(sizePlace(table, way, line));
        }

        private static int sizePlace(int table, int way, int line) {
            return (table * WAYS + way) * MOST_LINES + line;
        }

        private static int squaresEndOf(int table) {
            return (table + 1) * TABLE_SQUARES;
        }

        /** A table within a cell has a greater number than the table of that cell: it is measured first. */
        void measure() {
            sizes.clear();
            for (int table = sheet.tables - 1; table >= 0; table--) {
                valueCells(table);
                showNumbers(table);
                ruleCells(table);
                ruleEdges(table);
                for (int way = ACROSS; way <= DOWN; way++) {
                    wantSizes(table, way);
                    sizeSingles(table, way);
                    sizeSpans(table, way);
                    sizeTable(table, way);
                }
            }
        }

        private void valueCells(int table) {
            int total = 0;
            for (int square = table * TABLE_SQUARES; square < squaresEndOf(table); square++) {
                int value = sheet.isCell(square) ? valueOf(square) : 0;
                values.store(square, value);
                total += value;
            }
            tableValues.store(table, total);
        }

        private int valueOf(int cell) {
            switch (sheet.kinds.at(cell)) {
                case NUMBER:
                    return sheet.contents.at(cell);
                case TABLE:
                    return tableValues.at(sheet.contents.at(cell));
                default:
                    return 0;
            }
        }

        private void showNumbers(int table) {
            for (int square = table * TABLE_SQUARES; square < squaresEndOf(table); square++) {
                int number = values.at(square);
                if (sheet.isCell(square) && isSum(sheet.kinds.at(square))) {
                    startSum(square);
                    number = sumOf(square);
                }
                shown.store(square, number);
            }
        }

        /** A sum starts at the nearest sum of its kind among those that it would count from the first line on. */
        private void startSum(int sum) {
            starts.store(sum, 0);
            int kind = sheet.kinds.at(sum);
            int start = 0;
            int table = tableOf(sum);
            for (int other = table * TABLE_SQUARES; other < squaresEndOf(table); other++) {
                if (sheet.isCell(other) && sheet.kinds.at(other) == kind && isCounted(sum, other)) {
                    start = Math.max(start, placeOf(other, kind == COLUMN_SUM ? DOWN : ACROSS));
                }
            }
            starts.store(sum, start);
        }

        private int sumOf(int sum) {
            int total = 0;
            int table = tableOf(sum);
            for (int cell = table * TABLE_SQUARES; cell < squaresEndOf(table); cell++) {
                if (values.at(cell) != 0 && isCounted(sum, cell)) {
                    total += values.at(cell);
                }
            }
            return total;
        }

        /** Whether a sum counts a cell: for a column sum one from its start on, above it, in one of its columns. */
        private boolean isCounted(int sum, int cell) {
            int kind = sheet.kinds.at(sum);
            if (kind == TABLE_SUM) {
                return true;
            }
            int way = kind == COLUMN_SUM ? DOWN : ACROSS;
            int crossing = kind == COLUMN_SUM ? ACROSS : DOWN;
            int place = placeOf(cell, way);
            int sumFirst = placeOf(sum, crossing);
            int cellFirst = placeOf(cell, crossing);
            return place >= starts.at(sum) && place < placeOf(sum, way)
                    && cellFirst < sumFirst + sheet.spans.at(sum * WAYS + crossing)
                    && sumFirst < cellFirst + sheet.spans.at(cell * WAYS + crossing);
        }

        int countSumsOf(int cell) {
            int sums = 0;
            int table = tableOf(cell);
            for (int sum = table * TABLE_SQUARES; sum < squaresEndOf(table); sum++) {
                if (sheet.isCell(sum) && isSum(sheet.kinds.at(sum)) && isCounted(sum, cell)) {
                    sums++;
                }
            }
            return sums;
        }

        private void ruleCells(int table) {
            for (int square = table * TABLE_SQUARES; square < squaresEndOf(table); square++) {
                int within = sheet.isCell(square) ? sheet.tableWithin(square) : NONE;
                for (int side = 0; side < SIDES; side++) {
                    int place = square * SIDES + side;
                    int inner = within == NONE ? 0 : borderRule(within, side);
                    rules.store(place, Math.max(sheet.rules.at(place), inner));
                }
            }
        }

        private int borderRule(int table, int side) {
            int way = side == ABOVE || side == BELOW ? DOWN : ACROSS;
            int line = side == ABOVE || side == LEFT ? 0 : sheet.linesOf(table, way) - 1;
            return greatestRule(table, way, line, side);
        }

        /** The greatest rule of the edges on a side of all squares in a row (for the way down), or in a column. */
        private int greatestRule(int table, int way, int line, int side) {
            int greatest = 0;
            for (int square = table * TABLE_SQUARES; square < squaresEndOf(table); square++) {
                if (placeOf(square, way) == line) {
                    greatest = Math.max(greatest, edges.at(square * SIDES + side));
                }
            }
            return greatest;
        }

        private void ruleEdges(int table) {
            for (int square = table * TABLE_SQUARES; square < squaresEndOf(table); square++) {
                for (int side = 0; side < SIDES; side++) {
                    edges.store(square * SIDES + side, edgeRule(square, side));
                }
            }
        }

        private int edgeRule(int square, int side) {
            int owner = sheet.owners.at(square);
            if (owner == NONE) {
                return 0;
            }
            int rule = rules.at(owner * SIDES + side);
            int other = sheet.ownerBeside(square, side);
            if (other == NONE) {
                return rule;
            }
            int facing = (side + 2) % SIDES;
            return other == owner ? 0 : Math.max(rule, rules.at(other * SIDES + facing));
        }

        private void wantSizes(int table, int way) {
            for (int square = table * TABLE_SQUARES; square < squaresEndOf(table); square++) {
                wants.store(square * WAYS + way, sheet.isCell(square) ? wantOf(square, way) : 0);
            }
        }

        private int wantOf(int cell, int way) {
            int content = sheet.contents.at(cell);
            switch (sheet.kinds.at(cell)) {
                case EMPTY:
                    return 0;
                case TABLE:
                    return tableSizes.at(content * WAYS + way);
                case WORD:
                    return way == DOWN ? 1 : content;
                default:
                    return way == DOWN ? 1 : signsOf(shown.at(cell));
            }
        }

        private void sizeSingles(int table, int way) {
            for (int square = table * TABLE_SQUARES; square < squaresEndOf(table); square++) {
                if (sheet.isCell(square) && sheet.spanOf(square, way) == 1) {
                    int place = sizePlace(table, way, placeOf(square, way));
                    sizes.store(place, Math.max(sizes.at(place), wants.at(square * WAYS + way)));
                }
            }
        }

        private void sizeSpans(int table, int way) {
            for (int square = table * TABLE_SQUARES; square < squaresEndOf(table); square++) {
                if (sheet.isCell(square) && sheet.spanOf(square, way) > 1) {
                    int first = placeOf(square, way);
                    int last = first + sheet.spanOf(square, way) - 1;
                    int missing = wants.at(square * WAYS + way) - sizeTogether(table, way, first, last);
                    int place = sizePlace(table, way, last);
                    sizes.store(place, sizes.at(place) + Math.max(0, missing));
                }
            }
        }

        private int sizeTogether(int table, int way, int first, int last) {
            int together = 0;
            for (int line = first; line <= last; line++) {
                together += sizeOf(table, way, line);
            }
            return together;
        }

        private void sizeTable(int table, int way) {
            int last = sheet.linesOf(table, way) - 1;
            int before = way == DOWN ? ABOVE : LEFT;
            int behind = way == DOWN ? BELOW : RIGHT;
            int lines = greatestRule(table, way, last, behind) > 0 ? 1 : 0;
            for (int line = 0; line <= last; line++) {
                lines += greatestRule(table, way, line, before) > 0 ? 1 : 0;
            }
            drawn.store(table * WAYS + way, lines);
            tableSizes.store(table * WAYS + way, lines + sizeTogether(table, way, 0, last));
        }

        /** The edges above and to the left of all squares, and those at the border that are on the other sides. */
        int countEdges() {
            int ruled = 0;
            for (int square = 0; square < sheet.squaresEnd(); square++) {
                for (int side = 0; side < SIDES; side++) {
                    boolean isOwn = side == ABOVE || side == LEFT || sheet.ownerBeside(square, side) == NONE;
                    if (isOwn && edges.at(square * SIDES + side) > 0) {
                        ruled++;
                    }
                }
            }
            return ruled;
        }

        int countPages(int pageHeight) {
            return pageOf(sheet.linesOf(0, DOWN) - 1, pageHeight) + 1;
        }

        int pageOf(int row, int pageHeight) {
            int page = 0;
            int used = 0;
            for (int first = 0; first <= row; first++) {
                if (isJoined(first)) {
                    continue;
                }
                int height = sizeOf(0, DOWN, first);
                for (int next = first + 1; next < sheet.linesOf(0, DOWN) && isJoined(next); next++) {
                    height += sizeOf(0, DOWN, next);
                }
                if (first > 0 && used + height > pageHeight) {
                    page++;
                    used = 0;
                }
                used += height;
            }
            return page;
        }

        /** Whether a cell of the table 0 has squares in the row and in the one above it. */
        private boolean isJoined(int row) {
            for (int column = 0; column < sheet.linesOf(0, ACROSS); column++) {
                int square = row * MOST_LINES + column;
                if (sheet.ownerBeside(square, ABOVE) == sheet.owners.at(square)) {
                    return true;
                }
            }
            return false;
        }
    }

    /** The saved states, in a ring whose sheets are used again. */
    private static final class History {
        private final Sheet[] sheets = new Sheet[MOST_SAVED];
        private int oldest;
        private int saved;

        History() {
            for (int slot = 0; slot < sheets.length; slot++) {
                sheets[slot] = new Sheet();
            }
        }

        void save(Sheet sheet) {
            if (saved >= MOST_SAVED) {
                oldest = (oldest + 1) % MOST_SAVED;
                saved = MOST_SAVED - 1;
            }
            Sheet kept = sheetAt(saved);
            if (kept != null) {
                kept.copyFrom(sheet);
            }
            saved++;
        }

        void takeBack(Sheet sheet) {
            saved--;
            Sheet kept = sheetAt(saved);
            if (kept != null) {
                sheet.copyFrom(kept);
            }
        }

        private Sheet sheetAt(int number) {
            int slot = (oldest + number) % MOST_SAVED;
            return slot >= 0 && slot < sheets.length ? sheets[slot] : null;
        }
    }

    /** The buffer, and the reading of orders in it. */
    private static final class OrderText {
        private static final int WRONG = -1;
        private static final int AT_TABLE = 0;
        private static final int AT_COLUMN = 1;
        private static final int AT_ROW = 2;
        private static final int AT_CONTENT = 3;
        private static final int AT_SIGN = 4;
        private static final int AT_NUMBER = 5;
        private static final int AT_WIDTH = 6;
        /** From here on an order may end. */
        private static final int AFTER_ONE_DIGIT = 7;
        private static final int AFTER_TWO_DIGITS = 8;
        private static final int AFTER_WIDTH_ONE = 9;
        private static final int AT_END = 10;

        private final Numbers codes = new Numbers(MOST_SIGNS);
        private int length;

        void add(int code) {
            codes.store(length, code);
            length++;
        }

        int firstFault() {
            int expected = AT_TABLE;
            for (int place = 0; place < length; place++) {
                expected = expectedAfter(expected, codes.at(place));
                if (expected == WRONG) {
                    return place;
                }
            }
            return length;
        }

        boolean isOrders() {
            int expected = AT_TABLE;
            for (int place = 0; place < length && expected != WRONG; place++) {
                expected = expectedAfter(expected, codes.at(place));
            }
            return expected >= AFTER_ONE_DIGIT;
        }

        private static int expectedAfter(int expected, int code) {
            if (expected >= AFTER_ONE_DIGIT && code == ';') {
                return AT_TABLE;
            }
            switch (expected) {
                case AT_TABLE:
                    return isBetween(code, '0', '4') ? AT_COLUMN : WRONG;
                case AT_COLUMN:
                    return isBetween(code, 'a', 'e') ? AT_ROW : WRONG;
                case AT_ROW:
                    return isBetween(code, '1', '5') ? AT_CONTENT : WRONG;
                case AT_CONTENT:
                    return afterContent(code);
                case AT_SIGN:
                    return code == '-' ? AT_NUMBER : afterFirstDigit(code);
                case AT_NUMBER:
                    return afterFirstDigit(code);
                case AT_WIDTH:
                    return code == '1' ? AFTER_WIDTH_ONE : isBetween(code, '2', '9') ? AT_END : WRONG;
                case AFTER_ONE_DIGIT:
                    return isBetween(code, '0', '9') ? AFTER_TWO_DIGITS : WRONG;
                case AFTER_TWO_DIGITS:
                    return isBetween(code, '0', '9') ? AT_END : WRONG;
                case AFTER_WIDTH_ONE:
                    return isBetween(code, '0', '2') ? AT_END : WRONG;
                default:
                    return WRONG;
            }
        }

        private static int afterContent(int code) {
            switch (code) {
                case '=':
                    return AT_SIGN;
                case 'w':
                    return AT_WIDTH;
                case '^':
                case '<':
                case '#':
                case '!':
                    return AT_END;
                default:
                    return WRONG;
            }
        }

        private static int afterFirstDigit(int code) {
            if (code == '0') {
                return AT_END;
            }
            return isBetween(code, '1', '9') ? AFTER_ONE_DIGIT : WRONG;
        }

        boolean isOrderEnd(int place) {
            return place >= length || codes.at(place) == ';';
        }

        int tableAt(int start) {
            return codes.at(start) - '0';
        }

        int columnAt(int start) {
            return codes.at(start + 1) - 'a';
        }

        int rowAt(int start) {
            return codes.at(start + 2) - '1';
        }

        int kindAt(int start) {
            switch (codes.at(start + 3)) {
                case '=':
                    return NUMBER;
                case 'w':
                    return WORD;
                case '^':
                    return COLUMN_SUM;
                case '<':
                    return ROW_SUM;
                case '#':
                    return TABLE_SUM;
                default:
                    return EMPTY;
            }
        }

        int numberAt(int start, int end) {
            int number = 0;
            for (int place = start + 4; place < end; place++) {
                if (codes.at(place) != '-') {
                    number = number * 10 + codes.at(place) - '0';
                }
            }
            return codes.at(start + 4) == '-' ? -number : number;
        }
    }
}
