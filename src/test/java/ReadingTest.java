/** Promises 12 to 16: width, rows, cell, times, many. */
public final class ReadingTest {
    public static void main(String[] args) {
        widths();
        rowsInOrder();
        manyLooksAtWidthCells();
        wrongInputs();
        Check.end();
    }

    private static void widths() {
        DeltaViews x = new DeltaViews();
        Check.due("table", x.width(2), 2);
        for (int n = 1; n <= 4; n++) {
            Check.due("project", x.width(x.project(0, n, 0x1010)), n);
        }
        Check.due("select", x.width(x.select(6, 3, 0, 0)), 4);
        Check.due("distinct", x.width(x.distinct(5)), 3);
        Check.due("group", x.width(x.group(6, 0, 3, 3)), 2);
        Check.due("join", x.width(x.join(5, 3, 2, 0)), 4);
        Check.due("union", x.width(x.union(3, 3)), 1);
    }

    private static void rowsInOrder() {
        DeltaViews x = Check.withTable(Check.r(0, 0, 1), Check.r(-1000, 1000, 2),
                Check.r(1000, -1000, 3), Check.r(0, -1, 4), Check.r(0, 1, 5), Check.r(-1, 0, 6));
        Check.bag("the first that differs decides", x, 0, 2,
                Check.row(-1000, 1000, 2), Check.row(-1, 0, 6), Check.row(0, -1, 4),
                Check.row(0, 0, 1), Check.row(0, 1, 5), Check.row(1000, -1000, 3));
        Check.bag("in a view", x, x.project(0, 3, 0x010), 3,
                Check.row(-1000, 1000, -1000, 2), Check.row(-1, 0, -1, 6), Check.row(0, -1, 0, 4),
                Check.row(0, 0, 0, 1), Check.row(0, 1, 0, 5), Check.row(1000, -1000, 1000, 3));
        DeltaViews far = Check.withTable(Check.r(3, 4, 99));
        int four = far.join(0, 0, 0, 0);
        int two = far.project(four, 2, 0x10);
        int eight = far.join(two, two, 0, 0);
        int less = far.project(eight, 2, 0x10);
        int most = far.join(less, less, 0, 0);
        int sum = far.group(most, 0, 0, 1);
        int turned = far.project(sum, 2, 0x01);
        int one = far.project(0, 2, 0x10);
        Check.bag("numbers that are far apart", far, far.union(turned, one), 2,
                Check.row(4 * (int) 9227446944279201L, 3, 1), Check.row(3, 4, 99));
    }

    private static void manyLooksAtWidthCells() {
        DeltaViews x = Check.withTable(Check.r(1, 2, 3), Check.r(1, 3, 5), Check.r(0, 0, 7));
        Check.due("two", x.many(0, 1, 2, 77, -77), 3);
        Check.due("another second", x.many(0, 1, 4, 0, 0), 0);
        Check.due("another first", x.many(0, 2, 2, 0, 0), 0);
        Check.due("beyond", x.many(0, Integer.MAX_VALUE, Integer.MIN_VALUE, 0, 0), 0);
        Check.due("zeros", x.many(0, 0, 0, 0, 0), 7);
        int one = x.project(0, 1, 0);
        Check.due("one", x.many(one, 1, 9, 9, 9), 8);
        int four = x.join(0, 0, 1, 1);
        Check.due("four", x.many(four, 1, 3, 1, 3), 25);
        Check.due("another third", x.many(four, 1, 3, 2, 3), 0);
        Check.due("another fourth", x.many(four, 1, 3, 1, 2), 0);
        int three = x.project(four, 3, 0x321);
        Check.due("three", x.many(three, 3, 1, 3, 9), 25);
        Check.due("another third", x.many(three, 3, 1, 2, 9), 0);
        Check.due("nothing was added", x.rows(0) + x.rows(four), 6);
    }

    private static void wrongInputs() {
        DeltaViews x = Check.withTable(Check.r(1, 2, 3), Check.r(2, 2, 3));
        x.distinct(0);
        for (int none : new int[] {-1, 4, 11, 12, Integer.MAX_VALUE, Integer.MIN_VALUE}) {
            Check.index("width " + none, () -> x.width(none));
            Check.index("rows " + none, () -> x.rows(none));
            Check.index("cell " + none, () -> x.cell(none, 0, 0));
            Check.index("times " + none, () -> x.times(none, 0));
            Check.index("times " + none + ", no row", () -> x.times(none, -1));
            Check.index("many " + none, () -> x.many(none, 0, 0, 0, 0));
            Check.index("moved " + none, () -> x.moved(none));
        }
        for (int none : new int[] {-1, 2, 16, 32, Integer.MAX_VALUE, Integer.MIN_VALUE}) {
            Check.noElement("cell, row " + none, () -> x.cell(0, none, 0));
            Check.noElement("times, row " + none, () -> x.times(0, none));
            Check.index("cell, column " + none, () -> x.cell(0, 0, none));
            Check.index("cell, column and row " + none, () -> x.cell(0, none, none));
        }
        Check.noElement("an empty table", () -> x.cell(1, 0, 0));
        Check.noElement("an empty table", () -> x.times(1, 0));
        int one = x.project(0, 1, 0);
        Check.index("a narrow view", () -> x.cell(one, 0, 1));
    }
}
