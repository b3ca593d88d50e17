import java.util.NoSuchElementException;

/**
 * Views over tables, each made of others by an operation of bags of rows, and kept up to date
 * by what a batch of changes makes different in them, from the tables upward.
 *
 * <p>A commit makes the bags anew in the order of the views' numbers: a view is made only of
 * views with lower numbers, so what it reads is up to date already. Each view keeps the bag it
 * had before, to go back to when the commit is refused and to count what has moved.
 */
public final class DeltaViews {
    private static final int TABLES = 3;
    private static final int MOST_VIEWS = 12;
    private static final int TABLE_WIDTH = 2;
    private static final int MOST_WIDTH = 4;
    private static final int TABLE_ROWS = 8;
    private static final int VIEW_ROWS = 16;
    private static final int MOST_CHANGES = 8;
    private static final int FARTHEST_CELL = 1000;
    private static final int MOST_TIMES = 99;

    private static final int LESS = 0;
    private static final int EQUAL = 1;
    private static final int GREATER = 2;

    private static final int SUM = 0;
    private static final int COUNT = 1;
    private static final int MOST = 2;

    private static final int BITS_OF_COLUMN = 4;
    private static final int COLUMN_MASK = 15;

    /** The places from count on hold nothing that can be seen; they are used again. */
    private final View[] views = new View[MOST_VIEWS];
    private int count = TABLES;
    private final Batch batch = new Batch();

    public DeltaViews() {
        for (int v = 0; v < MOST_VIEWS; v++) {
            // The place of a view to come is an empty table till then, so that none is null.
            views[v] = new View(new Table());
        }
    }

    public int change(int table, int a, int b, int by)
            throws IndexOutOfBoundsException, IllegalArgumentException, IllegalStateException {
        if (table < 0 || table >= TABLES) {
            throw new IndexOutOfBoundsException("no such table");
        }
        if (isTooFar(a, FARTHEST_CELL) || isTooFar(b, FARTHEST_CELL) || isTooFar(by, MOST_TIMES)) {
            throw new IllegalArgumentException("a number is too far from 0");
        }
        if (batch.isFull()) {
            throw new IllegalStateException("the batch is full");
        }
        return batch.append(table, a, b, by);
    }

    public int cancel() {
        return batch.empty();
    }

    public int commit() throws IllegalStateException {
        boolean done = renewViews();
        batch.empty();
        if (!done) {
            throw new IllegalStateException("a table or a view would not keep its limits");
        }
        for (int v = 0; v < count; v++) {
            views[v].countMoved();
        }
        int movedInTables = 0;
        for (int t = 0; t < TABLES; t++) {
            movedInTables += views[t].moved;
        }
        return movedInTables;
    }

    public int select(int e, int column, int test, int number)
            throws IndexOutOfBoundsException, IllegalArgumentException, IllegalStateException {
        View source = viewAt(e);
        needColumn(source, column);
        if (test < LESS || test > GREATER) {
            throw new IllegalArgumentException("no such test");
        }
        return makeView(new Select(source, column, test, number));
    }

    public int project(int e, int n, int columns)
            throws IndexOutOfBoundsException, IllegalArgumentException, IllegalStateException {
        View source = viewAt(e);
        if (n < 1 || n > MOST_WIDTH) {
            throw new IllegalArgumentException("no such width");
        }
        for (int k = 0; k < n; k++) {
            needColumn(source, columnInBits(columns, k));
        }
        return makeView(new Project(source, n, columns));
    }

    public int join(int e, int f, int i, int j)
            throws IndexOutOfBoundsException, IllegalArgumentException, IllegalStateException {
        View left = viewAt(e);
        View right = viewAt(f);
        needColumn(left, i);
        needColumn(right, j);
        if (left.now.width + right.now.width > MOST_WIDTH) {
            throw new IllegalArgumentException("too wide together");
        }
        return makeView(new Join(left, right, i, j));
    }

    public int union(int e, int f)
            throws IndexOutOfBoundsException, IllegalArgumentException, IllegalStateException {
        View left = viewAt(e);
        View right = viewAt(f);
        if (left.now.width != right.now.width) {
            throw new IllegalArgumentException("the widths differ");
        }
        return makeView(new Union(left, right));
    }

    public int group(int e, int kind, int i, int k)
            throws IndexOutOfBoundsException, IllegalArgumentException, IllegalStateException {
        View source = viewAt(e);
        needColumn(source, i);
        needColumn(source, k);
        if (kind < SUM || kind > MOST) {
            throw new IllegalArgumentException("no such kind");
        }
        return makeView(new Group(source, kind, i, k));
    }

    public int distinct(int e) throws IndexOutOfBoundsException, IllegalStateException {
        return makeView(new Distinct(viewAt(e)));
    }

    public int drop() throws IllegalStateException {
        if (count == TABLES) {
            throw new IllegalStateException("only the tables are left");
        }
        count--;
        return count;
    }

    public int width(int e) throws IndexOutOfBoundsException {
        return viewAt(e).now.width;
    }

    public int rows(int e) throws IndexOutOfBoundsException {
        return viewAt(e).now.size;
    }

    public int cell(int e, int i, int column)
            throws IndexOutOfBoundsException, NoSuchElementException {
        View view = viewAt(e);
        needColumn(view, column);
        needRow(view, i);
        return view.now.cellAt(i, column);
    }

    public long times(int e, int i) throws IndexOutOfBoundsException, NoSuchElementException {
        View view = viewAt(e);
        needRow(view, i);
        return view.now.timesAt(i);
    }

    public long many(int e, int a, int b, int c, int d) throws IndexOutOfBoundsException {
        Bag bag = viewAt(e).now;
        bag.put(0, a);
        bag.put(1, b);
        bag.put(2, c);
        bag.put(3, d);
        return bag.timesOfPending();
    }

    public int moved(int e) throws IndexOutOfBoundsException {
        return viewAt(e).moved;
    }

    private static boolean isTooFar(int number, int farthest) {
        return number < -farthest || number > farthest;
    }

    private static int columnInBits(int columns, int k) {
        return (columns >> (BITS_OF_COLUMN * k)) & COLUMN_MASK;
    }

    private View viewAt(int e) {
        if (e < 0 || e >= count) {
            throw new IndexOutOfBoundsException("no such view");
        }
        return views[e];
    }

    private static void needColumn(View view, int column) {
        if (column < 0 || column >= view.now.width) {
            throw new IndexOutOfBoundsException("no such column");
        }
    }

    private static void needRow(View view, int row) {
        if (row < 0 || row >= view.now.size) {
            throw new NoSuchElementException("no such row");
        }
    }

    private int makeView(Operation operation) {
        if (count == MOST_VIEWS) {
            throw new IllegalStateException("no room for another view");
        }
        View view = views[count];
        view.begin(operation);
        if (!view.keepsLimits()) {
            throw new IllegalStateException("the view would have too many rows");
        }
        count++;
        return count - 1;
    }

    /** False when a table or a view would not keep its limits; then all are as they were. */
    private boolean renewViews() {
        for (int v = 0; v < count; v++) {
            views[v].renew();
            batch.addTo(v, views[v].now);
            if (!views[v].keepsLimits()) {
                takeBack(v);
                return false;
            }
        }
        return true;
    }

    private void takeBack(int last) {
        for (int v = 0; v <= last; v++) {
            views[v].exchangeBags();
        }
    }

    /** The changes that wait for a commit. */
    private static final class Batch {
        private final int[] table = new int[MOST_CHANGES];
        private final int[] a = new int[MOST_CHANGES];
        private final int[] b = new int[MOST_CHANGES];
        private final int[] by = new int[MOST_CHANGES];
        private int size = 0;

        boolean isFull() {
            return size == MOST_CHANGES;
        }

        int append(int tableNumber, int first, int second, int difference) {
            table[size] = tableNumber;
            a[size] = first;
            b[size] = second;
            by[size] = difference;
            size++;
            return size;
        }

        int empty() {
            int had = size;
            size = 0;
            return had;
        }

        /** Adds what there is for a view; that is nothing when the view is no table. */
        void addTo(int view, Bag out) {
            for (int c = 0; c < size; c++) {
                if (table[c] == view) {
                    out.put(0, a[c]);
                    out.put(1, b[c]);
                    out.add(by[c]);
                }
            }
        }
    }

    /** Rows in order, each with a multiplicity that is not 0. A new one is that of a table. */
    private static final class Bag {
        /**
         * Twice what a view may have, since the rows of a union may cancel out when the second
         * half of them comes. What is beyond is left out: only a join comes there, and no row of
         * a join cancels another, so that its bag stays too large to be kept.
         */
        private static final int ROOM = 2 * VIEW_ROWS;

        private int width = TABLE_WIDTH;
        private int size = 0;
        private final int[] cells = new int[ROOM * MOST_WIDTH];
        private final long[] multiplicities = new long[ROOM];
        /** The row that is to be added or looked for next; only width cells of it count. */
        private final int[] pending = new int[MOST_WIDTH];

        void clear(int newWidth) {
            width = newWidth;
            size = 0;
        }

        void copy(Bag other) {
            width = other.width;
            size = other.size;
            System.arraycopy(other.cells, 0, cells, 0, size * MOST_WIDTH);
            System.arraycopy(other.multiplicities, 0, multiplicities, 0, size);
        }

        int cellAt(int row, int column) {
            return cells[row * MOST_WIDTH + column];
        }

        long timesAt(int row) {
            return multiplicities[row];
        }

        void put(int column, int cell) {
            pending[column] = cell;
        }

        /** Puts a whole row of another bag, its first cell into the column start. */
        void putRow(Bag other, int row, int start) {
            for (int column = 0; column < other.width; column++) {
                put(start + column, other.cellAt(row, column));
            }
        }

        void add(long by) {
            int place = placeOfPending();
            if (isPending(place)) {
                multiplicities[place] += by;
                if (multiplicities[place] == 0) {
                    remove(place);
                }
            } else if (by != 0 && size < ROOM) {
                insert(place, by);
            }
        }

        void addAll(Bag other) {
            for (int row = 0; row < other.size; row++) {
                putRow(other, row, 0);
                add(other.timesAt(row));
            }
        }

        long timesOfPending() {
            int place = placeOfPending();
            return isPending(place) ? multiplicities[place] : 0;
        }

        boolean hasTimesOutside(int least, int greatest) {
            for (int row = 0; row < size; row++) {
                if (multiplicities[row] < least || multiplicities[row] > greatest) {
                    return true;
                }
            }
            return false;
        }

        /** In how many rows the multiplicities of two bags of the same width differ. */
        int differencesFrom(Bag other) {
            int differences = 0;
            int mine = 0;
            int others = 0;
            while (mine < size || others < other.size) {
                int order = orderOfRows(mine, other, others);
                if (order != 0 || multiplicities[mine] != other.multiplicities[others]) {
                    differences++;
                }
                if (order <= 0) {
                    mine++;
                }
                if (order >= 0) {
                    others++;
                }
            }
            return differences;
        }

        /** A row behind the last one comes after every row. */
        private int orderOfRows(int row, Bag other, int otherRow) {
            if (row >= size || otherRow >= other.size) {
                return row < size ? -1 : 1;
            }
            return orderOfCells(row, other.cells, otherRow * MOST_WIDTH);
        }

        private int orderOfCells(int row, int[] otherCells, int start) {
            for (int column = 0; column < width; column++) {
                int cell = cells[row * MOST_WIDTH + column];
                int otherCell = otherCells[start + column];
                if (cell != otherCell) {
                    return cell < otherCell ? -1 : 1;
                }
            }
            return 0;
        }

        /** The first row that is not before the pending one: from the end, as most come in order. */
        private int placeOfPending() {
            int place = size;
            while (place > 0 && orderOfCells(place - 1, pending, 0) >= 0) {
                place--;
            }
            return place;
        }

        private boolean isPending(int row) {
            return row < size && orderOfCells(row, pending, 0) == 0;
        }

        private void insert(int place, long by) {
            int start = place * MOST_WIDTH;
            int end = size * MOST_WIDTH;
            System.arraycopy(cells, start, cells, start + MOST_WIDTH, end - start);
            System.arraycopy(multiplicities, place, multiplicities, place + 1, size - place);
            System.arraycopy(pending, 0, cells, start, width);
            multiplicities[place] = by;
            size++;
        }

        private void remove(int place) {
            size--;
            int start = place * MOST_WIDTH;
            int end = size * MOST_WIDTH;
            System.arraycopy(cells, start + MOST_WIDTH, cells, start, end - start);
            System.arraycopy(multiplicities, place + 1, multiplicities, place, size - place);
        }
    }

    /** A bag with the operation that makes it, and the bag that was there before. */
    private static final class View {
        private Operation operation;
        private Bag now = new Bag();
        private Bag before = new Bag();
        private int moved = 0;

        View(Operation operation) {
            this.operation = operation;
        }

        void begin(Operation newOperation) {
            operation = newOperation;
            moved = 0;
            operation.fill(before, now);
        }

        void renew() {
            exchangeBags();
            operation.fill(before, now);
        }

        void exchangeBags() {
            Bag kept = now;
            now = before;
            before = kept;
        }

        boolean keepsLimits() {
            return operation.allows(now);
        }

        void countMoved() {
            moved = now.differencesFrom(before);
        }
    }

    /** What makes the bag of a view. */
    private abstract static class Operation {
        /** Fills the bag out, whatever it held; only a table is made of what it was before. */
        abstract void fill(Bag before, Bag out);

        boolean allows(Bag bag) {
            return bag.size <= VIEW_ROWS;
        }
    }

    /** A table stays what it is; it is the batch that changes it. */
    private static final class Table extends Operation {
        void fill(Bag before, Bag out) {
            out.copy(before);
        }

        boolean allows(Bag bag) {
            return bag.size <= TABLE_ROWS && !bag.hasTimesOutside(1, MOST_TIMES);
        }
    }

    private static final class Select extends Operation {
        private final View source;
        private final int column;
        private final int test;
        private final int number;

        Select(View source, int column, int test, int number) {
            this.source = source;
            this.column = column;
            this.test = test;
            this.number = number;
        }

        void fill(Bag before, Bag out) {
            Bag from = source.now;
            out.clear(from.width);
            for (int row = 0; row < from.size; row++) {
                if (passes(from.cellAt(row, column))) {
                    out.putRow(from, row, 0);
                    out.add(from.timesAt(row));
                }
            }
        }

        private boolean passes(int cell) {
            switch (test) {
                case LESS:
                    return cell < number;
                case EQUAL:
                    return cell == number;
                default:
                    return cell > number;
            }
        }
    }

    private static final class Project extends Operation {
        private final View source;
        private final int newWidth;
        private final int columns;

        Project(View source, int newWidth, int columns) {
            this.source = source;
            this.newWidth = newWidth;
            this.columns = columns;
        }

        void fill(Bag before, Bag out) {
            Bag from = source.now;
            out.clear(newWidth);
            for (int row = 0; row < from.size; row++) {
                for (int k = 0; k < newWidth; k++) {
                    out.put(k, from.cellAt(row, columnInBits(columns, k)));
                }
                out.add(from.timesAt(row));
            }
        }
    }

    private static final class Join extends Operation {
        private final View left;
        private final View right;
        private final int leftColumn;
        private final int rightColumn;

        Join(View left, View right, int leftColumn, int rightColumn) {
            this.left = left;
            this.right = right;
            this.leftColumn = leftColumn;
            this.rightColumn = rightColumn;
        }

        void fill(Bag before, Bag out) {
            out.clear(left.now.width + right.now.width);
            for (int row = 0; row < left.now.size; row++) {
                addPartners(row, out);
            }
        }

        private void addPartners(int leftRow, Bag out) {
            Bag e = left.now;
            Bag f = right.now;
            for (int row = 0; row < f.size; row++) {
                if (e.cellAt(leftRow, leftColumn) == f.cellAt(row, rightColumn)) {
                    out.putRow(e, leftRow, 0);
                    out.putRow(f, row, e.width);
                    out.add(e.timesAt(leftRow) * f.timesAt(row));
                }
            }
        }
    }

    private static final class Union extends Operation {
        private final View left;
        private final View right;

        Union(View left, View right) {
            this.left = left;
            this.right = right;
        }

        void fill(Bag before, Bag out) {
            out.clear(left.now.width);
            out.addAll(left.now);
            out.addAll(right.now);
        }
    }

    /** SUM, COUNT and MOST, which differ only in what a row gives and how two such are folded. */
    private static final class Group extends Operation {
        private static final int GROUP_WIDTH = 2;

        private final View source;
        private final int kind;
        private final int keyColumn;
        private final int column;

        Group(View source, int kind, int keyColumn, int column) {
            this.source = source;
            this.kind = kind;
            this.keyColumn = keyColumn;
            this.column = column;
        }

        void fill(Bag before, Bag out) {
            Bag from = source.now;
            out.clear(GROUP_WIDTH);
            for (int row = 0; row < from.size; row++) {
                if (isFirstOfGroup(from, row)) {
                    out.put(0, from.cellAt(row, keyColumn));
                    out.put(1, fold(from, row));
                    out.add(1);
                }
            }
        }

        private boolean isFirstOfGroup(Bag from, int row) {
            for (int earlier = 0; earlier < row; earlier++) {
                if (from.cellAt(earlier, keyColumn) == from.cellAt(row, keyColumn)) {
                    return false;
                }
            }
            return true;
        }

        private int fold(Bag from, int first) {
            int folded = worth(from, first);
            for (int row = first + 1; row < from.size; row++) {
                if (from.cellAt(row, keyColumn) == from.cellAt(first, keyColumn)) {
                    int next = worth(from, row);
                    folded = kind == MOST ? Math.max(folded, next) : folded + next;
                }
            }
            return folded;
        }

        private int worth(Bag from, int row) {
            switch (kind) {
                case SUM:
                    return from.cellAt(row, column) * (int) from.timesAt(row);
                case COUNT:
                    return (int) from.timesAt(row);
                default:
                    return from.cellAt(row, column);
            }
        }
    }

    private static final class Distinct extends Operation {
        private final View source;

        Distinct(View source) {
            this.source = source;
        }

        void fill(Bag before, Bag out) {
            Bag from = source.now;
            out.clear(from.width);
            for (int row = 0; row < from.size; row++) {
                out.putRow(from, row, 0);
                out.add(1);
            }
        }
    }
}
