import java.util.Arrays;

/** The digest as its promise tells it: the list of its values, got by the other calls, and their hash. */
final class DigestList {
    private DigestList() {
    }

    static long hash(long... values) {
        long hash = 2887;
        for (long value : values) {
            hash = 31 * hash + value;
        }
        return hash;
    }

    private static int add(long[] values, int length, long value) {
        values[length] = value;
        return length + 1;
    }

    /** The list of the promise, told by the other calls: for a table of 25 squares they are fewer than 512. */
    static long told(NestedSums x, int setting, String buffer) {
        long[] values = new long[4000];
        int n = 0;
        for (int what = 0; what <= 12; what++) {
            n = add(values, n, x.count(what));
        }
        int tables = (int) values[0];
        n = add(values, n, setting);
        for (int table = 0; table < tables; table++) {
            n = addTable(values, n, x, table);
        }
        int rows = x.table(0, 0);
        for (int row = 0; row < rows; row++) {
            n = add(values, n, x.page(row));
        }
        for (int what = 0; what <= 2; what++) {
            n = add(values, n, x.ifPut(0, 0, 0, 77, what));
        }
        n = add(values, n, x.heightFor(1));
        n = add(values, n, x.heightFor(2));
        n = add(values, n, Double.doubleToLongBits(x.filledShare()));
        n = add(values, n, buffer.length());
        for (int k = 0; k < buffer.length(); k++) {
            n = add(values, n, buffer.charAt(k));
        }
        return hash(Arrays.copyOf(values, n));
    }

    private static int addTable(long[] values, int length, NestedSums x, int table) {
        int n = length;
        for (int what = 0; what <= 7; what++) {
            n = add(values, n, x.table(table, what));
        }
        int rows = (int) values[length];
        int columns = (int) values[length + 1];
        for (int column = 0; column < columns; column++) {
            n = add(values, n, x.size(table, false, column));
        }
        for (int row = 0; row < rows; row++) {
            n = add(values, n, x.size(table, true, row));
        }
        for (int square = 0; square < rows * columns; square++) {
            int row = square / columns;
            int column = square % columns;
            for (int what = 0; what <= 11; what++) {
                n = add(values, n, x.cell(table, row, column, what));
            }
            for (int side = 0; side <= 3; side++) {
                n = add(values, n, x.edge(table, row, column, side));
            }
            n = add(values, n, x.countedBy(table, row, column));
        }
        return n;
    }
}
