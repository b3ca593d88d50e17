/**
 * "A call that throws changes nothing, but where it is said; of several exceptions the one that
 * stands first in the throws clause is thrown. A view that there is not, or a column that a view
 * has not, is an IndexOutOfBoundsException."
 *
 * <p>Each method is called with the last numbers that are allowed and the first that are refused,
 * in all their mixtures, so that every two of its exceptions come together somewhere.
 */
public final class RefusedCallTest {
    private static final int LEAST = Integer.MIN_VALUE;
    private static final int GREATEST = Integer.MAX_VALUE;
    private static final int SOME = 6;
    private static final int ALL = 12;
    /** The widths of the views of a busy object. */
    private static final int[] WIDTHS = {2, 2, 2, 1, 3, 4, 4, 1, 2, 2, 3, 1};

    public static void main(String[] args) {
        change();
        select();
        project();
        join();
        union();
        group();
        distinct();
        drop();
        tooManyRowsInAJoin();
        tooManyRowsInAUnion();
        readingOfViews();
        readingOfRows();
        Check.end();
    }

    /** Tables with rows, views of every width that have moved, and changes that wait. */
    static DeltaViews busy(int views, int changes) {
        DeltaViews x = new DeltaViews();
        Check.commitTo(x, 0, Check.r(1, 2, 3), Check.r(4, 2, 2));
        Check.commitTo(x, 1, Check.r(2, 1, 99));
        x.project(0, 1, 0);
        x.join(0, 3, 0, 0);
        x.join(0, 1, 1, 0);
        if (views == ALL) {
            x.distinct(5);
            x.union(3, 3);
            x.group(4, 0, 0, 1);
            x.select(0, 0, 2, 1);
            x.project(5, 3, 0x321);
            x.project(10, 1, 2);
        }
        Check.commitTo(x, 0, Check.r(1, 2, 1), Check.r(1, 5, 1));
        for (int n = 0; n < changes; n++) {
            x.change(n % 3, n, 7, n + 1);
        }
        return x;
    }

    private static void change() {
        for (int waiting : new int[] {0, 7, 8}) {
            for (int table : new int[] {LEAST, -1, 0, 2, 3, GREATEST}) {
                for (int a : new int[] {-1001, -1000, 1000, 1001}) {
                    for (int b : new int[] {-1001, -1000, 1000, 1001}) {
                        for (int by : new int[] {-100, -99, 99, 100}) {
                            look("change " + table + " " + a + " " + b + " " + by + " at " + waiting,
                                    first(table < 0 || table > 2,
                                            a == -1001 || a == 1001 || b == -1001 || b == 1001
                                                    || by == -100 || by == 100,
                                            waiting == 8),
                                    waiting + 1, () -> busy(SOME, waiting),
                                    x -> x.change(table, a, b, by));
                        }
                    }
                }
            }
        }
    }

    private static void select() {
        for (int views : new int[] {SOME, ALL}) {
            for (int e : numbersOfViews(views)) {
                for (int column : columns(views, e)) {
                    for (int test : new int[] {LEAST, -1, 0, 1, 2, 3, GREATEST}) {
                        look("select " + e + " " + column + " " + test + " of " + views,
                                first(hasNot(views, e, column), test < 0 || test > 2, views == ALL),
                                views, () -> busy(views, 3), x -> x.select(e, column, test, 1));
                    }
                }
            }
        }
    }

    private static void project() {
        for (int views : new int[] {SOME, ALL}) {
            for (int e : numbersOfViews(views)) {
                for (int n : new int[] {LEAST, -1, 0, 1, 2, 3, 4, 5, GREATEST}) {
                    for (int column : columns(views, e)) {
                        for (int k = 0; k < 4; k++) {
                            int columns = (column & 15) << 4 * k;
                            boolean isWidth = n >= 1 && n <= 4;
                            boolean isLookedAt = isWidth && k < n;
                            look("project " + e + " " + n + " " + columns + " of " + views,
                                    first(isNone(views, e)
                                                    || isLookedAt && hasNot(views, e, column & 15),
                                            !isWidth, views == ALL),
                                    views, () -> busy(views, 3), x -> x.project(e, n, columns));
                        }
                    }
                }
            }
        }
    }

    private static void join() {
        for (int views : new int[] {SOME, ALL}) {
            for (int e : numbersOfViews(views)) {
                for (int f : numbersOfViews(views)) {
                    for (int i : columns(views, e)) {
                        for (int j : columns(views, f)) {
                            look("join " + e + " " + f + " " + i + " " + j + " of " + views,
                                    first(hasNot(views, e, i) || hasNot(views, f, j),
                                            widthOf(views, e) + widthOf(views, f) > 4, views == ALL),
                                    views, () -> busy(views, 3), x -> x.join(e, f, i, j));
                        }
                    }
                }
            }
        }
    }

    private static void union() {
        for (int views : new int[] {SOME, ALL}) {
            for (int e : numbersOfViews(views)) {
                for (int f : numbersOfViews(views)) {
                    look("union " + e + " " + f + " of " + views,
                            first(isNone(views, e) || isNone(views, f),
                                    widthOf(views, e) != widthOf(views, f), views == ALL),
                            views, () -> busy(views, 3), x -> x.union(e, f));
                }
            }
        }
    }

    private static void group() {
        for (int views : new int[] {SOME, ALL}) {
            for (int e : numbersOfViews(views)) {
                for (int kind : new int[] {LEAST, -1, 0, 1, 2, 3, GREATEST}) {
                    for (int i : columns(views, e)) {
                        for (int k : columns(views, e)) {
                            look("group " + e + " " + kind + " " + i + " " + k + " of " + views,
                                    first(hasNot(views, e, i) || hasNot(views, e, k),
                                            kind < 0 || kind > 2, views == ALL),
                                    views, () -> busy(views, 3), x -> x.group(e, kind, i, k));
                        }
                    }
                }
            }
        }
    }

    private static void distinct() {
        for (int views : new int[] {SOME, ALL}) {
            for (int e : numbersOfViews(views)) {
                look("distinct " + e + " of " + views,
                        first(isNone(views, e), false, views == ALL),
                        views, () -> busy(views, 3), x -> x.distinct(e));
            }
        }
    }

    private static void drop() {
        look("drop with one view", null, 3, () -> tablesAnd(1), x -> x.drop());
        look("drop with the tables alone", IllegalStateException.class, 0,
                () -> tablesAnd(0), x -> x.drop());
    }

    private static DeltaViews tablesAnd(int views) {
        DeltaViews x = Check.withTable(Check.r(1, 2, 3), Check.r(2, 2, 4));
        for (int view = 0; view < views; view++) {
            x.distinct(0);
        }
        x.change(1, 1, 1, 1);
        return x;
    }

    /** Column 0 of table 0 and of table 1 make 4 * 4 pairs, and one more when there is a fifth. */
    private static DeltaViews pairs(int fifth, int views) {
        DeltaViews x = Check.withTable(Check.r(1, 0, 1), Check.r(1, 1, 1), Check.r(1, 2, 1),
                Check.r(1, 3, 1), Check.r(2, 0, 1));
        Check.commitTo(x, 1, Check.r(1, 0, 2), Check.r(1, 1, 2), Check.r(1, 2, 2), Check.r(1, 3, 2),
                Check.r(2, 9, fifth));
        x.project(0, 3, 0x010);
        for (int view = 4; view < views; view++) {
            x.distinct(2);
        }
        x.change(0, 7, 7, 7);
        return x;
    }

    private static void tooManyRowsInAJoin() {
        look("16 pairs", null, 4, () -> pairs(0, 4), x -> x.join(0, 1, 0, 0));
        look("17 pairs", IllegalStateException.class, 0,
                () -> pairs(1, 4), x -> x.join(0, 1, 0, 0));
        look("17 pairs, turned round", IllegalStateException.class, 0,
                () -> pairs(1, 4), x -> x.join(1, 0, 0, 0));
        look("17 pairs, the last view", IllegalStateException.class, 0,
                () -> pairs(1, 11), x -> x.join(0, 1, 0, 0));
        look("17 pairs, too many views", IllegalStateException.class, 0,
                () -> pairs(1, 12), x -> x.join(0, 1, 0, 0));
        look("17 pairs, too wide", IllegalArgumentException.class, 0,
                () -> pairs(1, 4), x -> x.join(3, 1, 0, 0));
        look("17 pairs, too wide, too many views", IllegalArgumentException.class, 0,
                () -> pairs(1, 12), x -> x.join(3, 1, 0, 0));
        look("17 pairs, too wide, no column", IndexOutOfBoundsException.class, 0,
                () -> pairs(1, 12), x -> x.join(3, 1, 0, 2));
    }

    /** View 3 has 16 rows, table 2 one, which is among them or not; view 4 is of width 1. */
    private static DeltaViews halves(boolean isAmongThem, int views) {
        DeltaViews x = new DeltaViews();
        for (int table = 0; table < 2; table++) {
            for (int n = 0; n < 8; n++) {
                x.change(table, table, n, 1);
            }
            x.commit();
        }
        Check.commitTo(x, 2, Check.r(isAmongThem ? 1 : 2, 7, 5));
        x.union(0, 1);
        x.project(2, 1, 0);
        for (int view = 5; view < views; view++) {
            x.distinct(2);
        }
        x.change(2, 1, 1, 1);
        return x;
    }

    private static void tooManyRowsInAUnion() {
        look("16 rows", null, 5, () -> halves(true, 5), x -> x.union(3, 2));
        look("17 rows", IllegalStateException.class, 0,
                () -> halves(false, 5), x -> x.union(3, 2));
        look("17 rows, turned round", IllegalStateException.class, 0,
                () -> halves(false, 5), x -> x.union(2, 3));
        look("17 rows, the last view", IllegalStateException.class, 0,
                () -> halves(false, 11), x -> x.union(3, 2));
        look("17 rows, too many views", IllegalStateException.class, 0,
                () -> halves(false, 12), x -> x.union(3, 2));
        look("17 rows, widths differ", IllegalArgumentException.class, 0,
                () -> halves(false, 5), x -> x.union(3, 4));
        look("17 rows, widths differ, too many views", IllegalArgumentException.class, 0,
                () -> halves(false, 12), x -> x.union(4, 3));
        look("17 rows, no view", IndexOutOfBoundsException.class, 0,
                () -> halves(false, 12), x -> x.union(3, 12));
    }

    private static void readingOfViews() {
        for (int views : new int[] {SOME, ALL}) {
            for (int e : numbersOfViews(views)) {
                Refusal.Maker maker = () -> busy(views, 3);
                String of = " " + e + " of " + views;
                if (isNone(views, e)) {
                    Class<?> due = IndexOutOfBoundsException.class;
                    look("width" + of, due, 0, maker, x -> x.width(e));
                    look("rows" + of, due, 0, maker, x -> x.rows(e));
                    look("many" + of, due, 0, maker, x -> x.many(e, 1, 2, 1, 2));
                    look("moved" + of, due, 0, maker, x -> x.moved(e));
                } else {
                    look("width" + of, null, WIDTHS[e], maker, x -> x.width(e));
                }
            }
        }
    }

    /** Every view has at least one row and at most four, but table 2 has none. */
    private static void readingOfRows() {
        for (int views : new int[] {SOME, ALL}) {
            for (int e : numbersOfViews(views)) {
                int rows = isNone(views, e) ? 0 : busy(views, 3).rows(e);
                for (int i : new int[] {LEAST, -1, 0, rows - 1, rows, 16, 32, GREATEST}) {
                    boolean isThere = i >= 0 && i < rows;
                    Refusal.Maker maker = () -> busy(views, 3);
                    element("times " + e + " " + i + " of " + views, isNone(views, e), isThere,
                            maker, x -> x.times(e, i));
                    for (int column : columns(views, e)) {
                        element("cell " + e + " " + i + " " + column + " of " + views,
                                hasNot(views, e, column), isThere, maker, x -> x.cell(e, i, column));
                    }
                }
            }
        }
    }

    private static void element(String what, boolean index, boolean isThere, Refusal.Maker maker,
            Refusal.Use use) {
        if (index) {
            Refusal.due(what, IndexOutOfBoundsException.class, maker, use);
        } else if (!isThere) {
            Refusal.due(what, java.util.NoSuchElementException.class, maker, use);
        } else {
            Check.holds(what, !Look.outcome(use, maker.made()).startsWith("java"));
        }
    }

    /** The exception that comes first in the throws clauses; null when nothing is wrong. */
    private static Class<?> first(boolean index, boolean argument, boolean state) {
        if (index) {
            return IndexOutOfBoundsException.class;
        }
        if (argument) {
            return IllegalArgumentException.class;
        }
        return state ? IllegalStateException.class : null;
    }

    private static void look(String what, Class<?> due, long answer, Refusal.Maker maker,
            Refusal.Use use) {
        if (due == null) {
            Check.same(what, Look.outcome(use, maker.made()), Long.toString(answer));
        } else {
            Refusal.due(what, due, maker, use);
        }
    }

    /** One view of each width, the last view, and those that are not there. */
    private static int[] numbersOfViews(int views) {
        return new int[] {LEAST, -1, 0, 2, 3, 4, 5, views - 1, views, 12, GREATEST};
    }

    private static boolean isNone(int views, int e) {
        return e < 0 || e >= views;
    }

    private static int widthOf(int views, int e) {
        return isNone(views, e) ? 0 : WIDTHS[e];
    }

    private static boolean hasNot(int views, int e, int column) {
        return column < 0 || column >= widthOf(views, e);
    }

    /** The first and the last column, and those before and behind them. */
    private static int[] columns(int views, int e) {
        int width = widthOf(views, e);
        return width == 0 ? new int[] {0, 4} : new int[] {LEAST, -1, 0, width - 1, width, 4, GREATEST};
    }
}
