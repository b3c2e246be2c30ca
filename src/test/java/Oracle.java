import java.util.ArrayDeque;
import java.util.ArrayList;
import java.util.Comparator;
import java.util.Deque;
import java.util.HashSet;
import java.util.List;
import java.util.Set;
import java.util.regex.Matcher;
import java.util.regex.Pattern;

/** The document once more, as plainly as its words go: everything is found anew at each call, by recursion. */
final class Oracle {
    private static final String ORDER = "[0-4][a-e][1-5](?:=-?(?:0|[1-9][0-9]{0,2})|w(?:1[0-2]|[1-9])|[\\^<#!])";
    private static final Pattern ORDERS = Pattern.compile(ORDER + "(?:;" + ORDER + ")*");
    private static final Pattern ONE_ORDER = Pattern.compile("(.)(.)(.)(.)(.*)");
    /** Each beginning of orders can be ended by one of these. */
    private static final String[] ENDS = {"", "0", "1", "!", "1!", "a1!", "0a1!"};

    private static final class Cell {
        private final Grid grid;
        private final int row;
        private final int column;
        private int rows = 1;
        private int columns = 1;
        private int kind;
        private int number;
        private Grid inner;
        private final int[] own = new int[4];

        Cell(Grid grid, int row, int column) {
            this.grid = grid;
            this.row = row;
            this.column = column;
        }

        boolean isSum() {
            return kind >= 4;
        }

        int value() {
            return kind == 1 ? number : kind == 3 ? inner.value() : 0;
        }

        Set<Integer> columnSet() {
            Set<Integer> set = new HashSet<>();
            for (int k = 0; k < columns; k++) {
                set.add(column + k);
            }
            return set;
        }

        Set<Integer> rowSet() {
            Set<Integer> set = new HashSet<>();
            for (int k = 0; k < rows; k++) {
                set.add(row + k);
            }
            return set;
        }

        boolean sharesColumn(Cell other) {
            Set<Integer> both = columnSet();
            both.retainAll(other.columnSet());
            return !both.isEmpty();
        }

        boolean sharesRow(Cell other) {
            Set<Integer> both = rowSet();
            both.retainAll(other.rowSet());
            return !both.isEmpty();
        }

        boolean counts(Cell other) {
            if (kind == 6) {
                return true;
            }
            if (kind == 4) {
                if (!sharesColumn(other) || other.row >= row) {
                    return false;
                }
                for (Cell sum : grid.cells()) {
                    if (sum.kind == 4 && sum.sharesColumn(this) && sum.row < row && other.row < sum.row) {
                        return false;
                    }
                }
                return true;
            }
            if (kind == 5) {
                if (!sharesRow(other) || other.column >= column) {
                    return false;
                }
                for (Cell sum : grid.cells()) {
                    if (sum.kind == 5 && sum.sharesRow(this) && sum.column < column && other.column < sum.column) {
                        return false;
                    }
                }
                return true;
            }
            return false;
        }

        int shown() {
            if (!isSum()) {
                return value();
            }
            int total = 0;
            for (Cell other : grid.cells()) {
                total += counts(other) ? other.value() : 0;
            }
            return total;
        }

        int rule(int side) {
            int greatest = own[side];
            if (inner != null) {
                for (int[] edge : inner.border(side)) {
                    greatest = Math.max(greatest, inner.edge(edge[0], edge[1], side));
                }
            }
            return greatest;
        }

        int width() {
            switch (kind) {
                case 0: return 0;
                case 2: return number;
                case 3: return inner.width();
                default: return String.valueOf(shown()).length();
            }
        }

        int height() {
            return kind == 0 ? 0 : kind == 3 ? inner.height() : 1;
        }
    }

    private static final class Grid {
        private final int rows;
        private final int columns;
        private final Cell home;
        private final Cell[][] squares;

        Grid(int rows, int columns, Cell home) {
            this.rows = rows;
            this.columns = columns;
            this.home = home;
            squares = new Cell[rows][columns];
            for (int r = 0; r < rows; r++) {
                for (int c = 0; c < columns; c++) {
                    squares[r][c] = new Cell(this, r, c);
                }
            }
        }

        boolean has(int row, int column) {
            return row >= 0 && row < rows && column >= 0 && column < columns;
        }

        Cell own(int row, int column) {
            Cell cell = squares[row][column];
            return cell.row == row && cell.column == column ? cell : null;
        }

        List<Cell> cells() {
            List<Cell> cells = new ArrayList<>();
            for (int r = 0; r < rows; r++) {
                for (int c = 0; c < columns; c++) {
                    if (own(r, c) != null) {
                        cells.add(own(r, c));
                    }
                }
            }
            return cells;
        }

        int value() {
            return cells().stream().mapToInt(Cell::value).sum();
        }

        List<int[]> border(int side) {
            List<int[]> border = new ArrayList<>();
            for (int k = 0; k < (side % 2 == 0 ? columns : rows); k++) {
                switch (side) {
                    case 0: border.add(new int[] {0, k}); break;
                    case 1: border.add(new int[] {k, columns - 1}); break;
                    case 2: border.add(new int[] {rows - 1, k}); break;
                    default: border.add(new int[] {k, 0}); break;
                }
            }
            return border;
        }

        int edge(int row, int column, int side) {
            int[][] steps = {{-1, 0}, {0, 1}, {1, 0}, {0, -1}};
            int r = row + steps[side][0];
            int c = column + steps[side][1];
            Cell here = squares[row][column];
            if (!has(r, c)) {
                return here.rule(side);
            }
            Cell there = squares[r][c];
            return here == there ? 0 : Math.max(here.rule(side), there.rule((side + 2) % 4));
        }

        int upright() {
            int drawn = 0;
            for (int line = 0; line <= columns; line++) {
                boolean is = false;
                for (int r = 0; r < rows; r++) {
                    is |= (line < columns ? edge(r, line, 3) : edge(r, columns - 1, 1)) > 0;
                }
                drawn += is ? 1 : 0;
            }
            return drawn;
        }

        int level() {
            int drawn = 0;
            for (int line = 0; line <= rows; line++) {
                boolean is = false;
                for (int c = 0; c < columns; c++) {
                    is |= (line < rows ? edge(line, c, 0) : edge(rows - 1, c, 2)) > 0;
                }
                drawn += is ? 1 : 0;
            }
            return drawn;
        }

        int[] widths() {
            int[] widths = new int[columns];
            List<Cell> wide = new ArrayList<>();
            for (Cell cell : cells()) {
                if (cell.columns == 1) {
                    widths[cell.column] = Math.max(widths[cell.column], cell.width());
                } else {
                    wide.add(cell);
                }
            }
            wide.sort(Comparator.<Cell>comparingInt(c -> c.row).thenComparingInt(c -> c.column));
            for (Cell cell : wide) {
                int have = 0;
                for (int k : cell.columnSet()) {
                    have += widths[k];
                }
                if (have < cell.width()) {
                    widths[cell.column + cell.columns - 1] += cell.width() - have;
                }
            }
            return widths;
        }

        int[] heights() {
            int[] heights = new int[rows];
            List<Cell> high = new ArrayList<>();
            for (Cell cell : cells()) {
                if (cell.rows == 1) {
                    heights[cell.row] = Math.max(heights[cell.row], cell.height());
                } else {
                    high.add(cell);
                }
            }
            high.sort(Comparator.<Cell>comparingInt(c -> c.row).thenComparingInt(c -> c.column));
            for (Cell cell : high) {
                int have = 0;
                for (int k : cell.rowSet()) {
                    have += heights[k];
                }
                if (have < cell.height()) {
                    heights[cell.row + cell.rows - 1] += cell.height() - have;
                }
            }
            return heights;
        }

        int width() {
            return java.util.Arrays.stream(widths()).sum() + upright();
        }

        int height() {
            return java.util.Arrays.stream(heights()).sum() + level();
        }

        int counting(Cell cell) {
            int counting = 0;
            for (Cell sum : cells()) {
                counting += sum.counts(cell) ? 1 : 0;
            }
            return counting + (home == null ? 0 : home.grid.counting(home));
        }
    }

    private static final class State {
        private int height = 10;
        private final List<Grid> grids = new ArrayList<>();

        State copy() {
            State copy = new State();
            copy.height = height;
            for (Grid grid : grids) {
                Cell home = null;
                if (grid.home != null) {
                    home = copy.grids.get(grids.indexOf(grid.home.grid)).squares[grid.home.row][grid.home.column];
                }
                Grid twin = new Grid(grid.rows, grid.columns, home);
                copy.grids.add(twin);
                if (home != null) {
                    home.inner = twin;
                }
                for (Cell cell : grid.cells()) {
                    Cell mine = twin.squares[cell.row][cell.column];
                    mine.rows = cell.rows;
                    mine.columns = cell.columns;
                    mine.kind = cell.kind;
                    mine.number = cell.number;
                    System.arraycopy(cell.own, 0, mine.own, 0, 4);
                    for (int r : cell.rowSet()) {
                        for (int c : cell.columnSet()) {
                            twin.squares[r][c] = mine;
                        }
                    }
                }
            }
            return copy;
        }
    }

    private State state = new State();
    private final Deque<State> saved = new ArrayDeque<>();
    private String buffer = "";

    Oracle() {
        state.grids.add(new Grid(3, 3, null));
    }

    private void save() {
        saved.addLast(state.copy());
        if (saved.size() > 6) {
            saved.removeFirst();
        }
    }

    private Grid grid(int table) {
        if (table < 0 || table >= state.grids.size()) {
            throw new IndexOutOfBoundsException();
        }
        return state.grids.get(table);
    }

    private Grid gridAt(int table, int row, int column) {
        if (!grid(table).has(row, column)) {
            throw new IndexOutOfBoundsException();
        }
        return grid(table);
    }

    private static void argument(boolean isGood) {
        if (!isGood) {
            throw new IllegalArgumentException();
        }
    }

    private static void state(boolean isGood) {
        if (!isGood) {
            throw new IllegalStateException();
        }
    }

    private static boolean lines(int n) {
        return n >= 1 && n <= 5;
    }

    int begin(int rows, int columns) {
        argument(lines(rows) && lines(columns));
        save();
        state.grids.clear();
        state.grids.add(new Grid(rows, columns, null));
        return rows * columns;
    }

    int nest(int table, int row, int column, int rows, int columns) {
        Grid grid = gridAt(table, row, column);
        argument(lines(rows) && lines(columns));
        state(grid.own(row, column) != null && grid.own(row, column).kind == 0 && state.grids.size() < 5);
        save();
        Cell cell = grid.own(row, column);
        cell.kind = 3;
        cell.inner = new Grid(rows, columns, cell);
        state.grids.add(cell.inner);
        return state.grids.size() - 1;
    }

    private void checkPut(int table, int row, int column, int kind, int number) {
        Grid grid = gridAt(table, row, column);
        argument(kind == 0 || kind == 1 && Math.abs((long) number) <= 999 || kind == 2 && number >= 1 && number <= 12
                || kind >= 4 && kind <= 6);
        Cell cell = grid.own(row, column);
        state(cell != null && (cell.kind != 3 || state.grids.indexOf(cell.inner) == state.grids.size() - 1));
    }

    private int doPut(int table, int row, int column, int kind, int number) {
        Cell cell = grid(table).own(row, column);
        int before = cell.kind;
        if (before == 3) {
            state.grids.remove(state.grids.size() - 1);
            cell.inner = null;
        }
        cell.kind = kind;
        cell.number = number;
        return before;
    }

    int put(int table, int row, int column, int kind, int number) {
        checkPut(table, row, column, kind, number);
        save();
        return doPut(table, row, column, kind, number);
    }

    int span(int table, int row, int column, int rows, int columns) {
        Grid grid = gridAt(table, row, column);
        if (lines(rows) && lines(columns) && !grid.has(row + rows - 1, column + columns - 1)) {
            throw new IndexOutOfBoundsException();
        }
        argument(lines(rows) && lines(columns));
        Cell cell = grid.own(row, column);
        state(cell != null);
        for (int r = row; r < row + rows; r++) {
            for (int c = column; c < column + columns; c++) {
                Cell there = grid.squares[r][c];
                state(there == cell || there.kind == 0 && there.rows * there.columns == 1);
            }
        }
        save();
        for (int r : cell.rowSet()) {
            for (int c : cell.columnSet()) {
                grid.squares[r][c] = r == row && c == column ? cell : new Cell(grid, r, c);
            }
        }
        cell.rows = rows;
        cell.columns = columns;
        for (int r : cell.rowSet()) {
            for (int c : cell.columnSet()) {
                grid.squares[r][c] = cell;
            }
        }
        return rows * columns;
    }

    int rule(int table, int row, int column, int side, int rule) {
        Grid grid = gridAt(table, row, column);
        argument(side >= 0 && side <= 3 && rule >= 0 && rule <= 3);
        Cell cell = grid.own(row, column);
        state(cell != null);
        save();
        int before = cell.own[side];
        cell.own[side] = rule;
        return before;
    }

    int set(int height) {
        argument(height >= 1 && height <= 60);
        save();
        int before = state.height;
        state.height = height;
        return before;
    }

    int append(int code) {
        argument(code >= 33 && code <= 126);
        state(buffer.length() < 60);
        buffer = buffer + (char) code;
        return buffer.length();
    }

    int clearBuffer() {
        int length = buffer.length();
        buffer = "";
        return length;
    }

    int firstError() {
        for (int k = 0; k < buffer.length(); k++) {
            boolean isBeginning = false;
            for (String end : ENDS) {
                isBeginning |= ORDERS.matcher(buffer.substring(0, k + 1) + end).matches();
            }
            if (!isBeginning) {
                return k;
            }
        }
        return buffer.length();
    }

    int run() {
        argument(ORDERS.matcher(buffer).matches());
        save();
        int done = 0;
        try {
            for (String order : buffer.split(";")) {
                Matcher parts = ONE_ORDER.matcher(order);
                state(parts.matches());
                int table = Integer.parseInt(parts.group(1));
                int column = "abcde".indexOf(parts.group(2));
                int row = Integer.parseInt(parts.group(3)) - 1;
                int kind = "!=w.^<#".indexOf(parts.group(4));
                int number = parts.group(5).isEmpty() ? 0 : Integer.parseInt(parts.group(5));
                checkPut(table, row, column, kind, number);
                doPut(table, row, column, kind, number);
                done++;
            }
        } catch (IndexOutOfBoundsException | IllegalStateException e) {
            // The orders end here.
        }
        buffer = "";
        return done;
    }

    int undo() {
        state(!saved.isEmpty());
        state = saved.removeLast();
        return saved.size();
    }

    int cell(int table, int row, int column, int what) {
        Grid grid = gridAt(table, row, column);
        argument(what >= 0 && what <= 11);
        Cell cell = grid.own(row, column);
        if (cell == null) {
            return -1;
        }
        switch (what) {
            case 0: return cell.kind;
            case 1: return cell.value();
            case 2: return cell.shown();
            case 3: return cell.rows;
            case 4: return cell.columns;
            case 5: return cell.width();
            case 6: return cell.height();
            case 7: return cell.inner == null ? -1 : state.grids.indexOf(cell.inner);
            default: return cell.rule(what - 8);
        }
    }

    int edge(int table, int row, int column, int side) {
        Grid grid = gridAt(table, row, column);
        argument(side >= 0 && side <= 3);
        return grid.edge(row, column, side);
    }

    int table(int table, int what) {
        Grid grid = grid(table);
        argument(what >= 0 && what <= 7);
        switch (what) {
            case 0: return grid.rows;
            case 1: return grid.columns;
            case 2: return grid.value();
            case 3: return grid.width();
            case 4: return grid.height();
            case 5: return grid.upright();
            case 6: return grid.level();
            default: return grid.home == null ? -1 : state.grids.indexOf(grid.home.grid);
        }
    }

    int size(int table, boolean isRow, int number) {
        int[] sizes = isRow ? grid(table).heights() : grid(table).widths();
        if (number < 0 || number >= sizes.length) {
            throw new IndexOutOfBoundsException();
        }
        return sizes[number];
    }

    private int[] pages(int limit) {
        Grid grid = state.grids.get(0);
        int[] heights = grid.heights();
        List<List<Integer>> blocks = new ArrayList<>();
        for (int r = 0; r < grid.rows; r++) {
            boolean isParted = r == 0;
            if (r > 0) {
                isParted = true;
                for (int c = 0; c < grid.columns; c++) {
                    isParted &= grid.squares[r][c] != grid.squares[r - 1][c];
                }
            }
            if (isParted) {
                blocks.add(new ArrayList<>());
            }
            blocks.get(blocks.size() - 1).add(r);
        }
        int[] pages = new int[grid.rows];
        int page = -1;
        int used = 0;
        for (List<Integer> block : blocks) {
            int height = block.stream().mapToInt(r -> heights[r]).sum();
            if (page < 0 || used + height > limit) {
                page++;
                used = 0;
            }
            used += height;
            for (int r : block) {
                pages[r] = page;
            }
        }
        return pages;
    }

    int page(int row) {
        int[] pages = pages(state.height);
        if (row < 0 || row >= pages.length) {
            throw new IndexOutOfBoundsException();
        }
        return pages[row];
    }

    private int pageCount(int limit) {
        int[] pages = pages(limit);
        return pages[pages.length - 1] + 1;
    }

    int count(int what) {
        argument(what >= 0 && what <= 12);
        int cells = 0;
        int squares = 0;
        int edges = 0;
        int ofKind = 0;
        for (Grid grid : state.grids) {
            squares += grid.rows * grid.columns;
            cells += grid.cells().size();
            for (Cell cell : grid.cells()) {
                ofKind += cell.kind == what - 2 ? 1 : 0;
            }
            for (int r = 0; r < grid.rows; r++) {
                for (int line = 0; line <= grid.columns; line++) {
                    edges += (line == 0 ? grid.edge(r, 0, 3) : grid.edge(r, line - 1, 1)) > 0 ? 1 : 0;
                }
            }
            for (int c = 0; c < grid.columns; c++) {
                for (int line = 0; line <= grid.rows; line++) {
                    edges += (line == 0 ? grid.edge(0, c, 0) : grid.edge(line - 1, c, 2)) > 0 ? 1 : 0;
                }
            }
        }
        switch (what) {
            case 0: return state.grids.size();
            case 1: return cells;
            case 9: return pageCount(state.height);
            case 10: return edges;
            case 11: return squares - cells;
            case 12: return saved.size();
            default: return ofKind;
        }
    }

    int ifPut(int table, int row, int column, int number, int what) {
        Grid grid = gridAt(table, row, column);
        argument(number >= -999 && number <= 999 && what >= 0 && what <= 2);
        Cell cell = grid.own(row, column);
        if (cell == null || cell.kind == 3) {
            return -1;
        }
        State before = state;
        state = state.copy();
        doPut(table, row, column, 1, number);
        int answer = 0;
        if (what == 0) {
            answer = state.grids.get(0).value();
        } else if (what == 2) {
            answer = state.grids.get(0).width();
        } else {
            for (int k = 0; k < before.grids.size(); k++) {
                for (Cell sum : before.grids.get(k).cells()) {
                    Cell then = state.grids.get(k).squares[sum.row][sum.column];
                    answer += sum.isSum() && sum != cell && sum.shown() != then.shown() ? 1 : 0;
                }
            }
        }
        state = before;
        return answer;
    }

    int countedBy(int table, int row, int column) {
        Grid grid = gridAt(table, row, column);
        Cell cell = grid.own(row, column);
        return cell == null ? -1 : cell.isSum() ? 0 : grid.counting(cell);
    }

    int heightFor(int pages) {
        argument(pages >= 1 && pages <= 5);
        for (int height = 1; height <= 60; height++) {
            if (pageCount(height) <= pages) {
                return height;
            }
        }
        return -1;
    }

    double filledShare() {
        return (double) (count(1) - count(2)) / count(1);
    }

    long digest() {
        List<Long> values = new ArrayList<>();
        for (int what = 0; what <= 12; what++) {
            values.add((long) count(what));
        }
        values.add((long) state.height);
        for (int t = 0; t < state.grids.size(); t++) {
            Grid grid = state.grids.get(t);
            for (int what = 0; what <= 7; what++) {
                values.add((long) table(t, what));
            }
            for (int width : grid.widths()) {
                values.add((long) width);
            }
            for (int height : grid.heights()) {
                values.add((long) height);
            }
            for (int r = 0; r < grid.rows; r++) {
                for (int c = 0; c < grid.columns; c++) {
                    for (int what = 0; what <= 11; what++) {
                        values.add((long) cell(t, r, c, what));
                    }
                    for (int side = 0; side <= 3; side++) {
                        values.add((long) edge(t, r, c, side));
                    }
                    values.add((long) countedBy(t, r, c));
                }
            }
        }
        for (int r = 0; r < state.grids.get(0).rows; r++) {
            values.add((long) page(r));
        }
        for (int what = 0; what <= 2; what++) {
            values.add((long) ifPut(0, 0, 0, 77, what));
        }
        values.add((long) heightFor(1));
        values.add((long) heightFor(2));
        values.add(Double.doubleToLongBits(filledShare()));
        values.add((long) buffer.length());
        buffer.chars().forEach(code -> values.add((long) code));
        long hash = 2887;
        for (long value : values) {
            hash = 31 * hash + value;
        }
        return hash;
    }
}
