/** Promise 6: project. */
public final class ProjectTest {
    public static void main(String[] args) {
        columnsInTheirOrder();
        bitsThatMeanNothing();
        wrongInputs();
        Check.end();
    }

    private static void columnsInTheirOrder() {
        DeltaViews x = Check.withTable(Check.r(1, 9, 2), Check.r(2, 5, 3), Check.r(3, 5, 4));
        Check.due("its number", x.project(0, 1, 1), 3);
        Check.bag("equal rows are added", x, 3, 1, Check.row(5, 7), Check.row(9, 2));
        Check.bag("turned round", x, x.project(0, 2, 0x01), 2,
                Check.row(5, 2, 3), Check.row(5, 3, 4), Check.row(9, 1, 2));
        Check.bag("as it is", x, x.project(0, 2, 0x10), 2,
                Check.row(1, 9, 2), Check.row(2, 5, 3), Check.row(3, 5, 4));
        int four = x.project(0, 4, 0x1010);
        Check.bag("four", x, four, 4,
                Check.row(1, 9, 1, 9, 2), Check.row(2, 5, 2, 5, 3), Check.row(3, 5, 3, 5, 4));
        Check.bag("of four", x, x.project(four, 3, 0x023), 3,
                Check.row(5, 2, 2, 3), Check.row(5, 3, 3, 4), Check.row(9, 1, 1, 2));
    }

    private static void bitsThatMeanNothing() {
        DeltaViews x = Check.withTable(Check.r(1, 9, 2));
        Check.bag("behind n", x, x.project(0, 1, 0xfffffff1), 1, Check.row(9, 2));
        Check.bag("behind 16", x, x.project(0, 4, 0xffff0110), 4, Check.row(1, 9, 9, 1, 2));
        Check.bag("greatest", x, x.project(0, 3, 0x7fff_f001), 3, Check.row(9, 1, 1, 2));
    }

    private static void wrongInputs() {
        DeltaViews x = Check.withTable(Check.r(1, 9, 2));
        Check.index("no view", () -> x.project(3, 1, 0));
        Check.index("no view", () -> x.project(-1, 1, 0));
        Check.index("no column", () -> x.project(0, 1, 2));
        Check.index("no column", () -> x.project(0, 1, -1));
        Check.index("no second column", () -> x.project(0, 2, 0x20));
        Check.index("no third column", () -> x.project(0, 3, 0x200));
        Check.index("no fourth column", () -> x.project(0, 4, 0xf000));
        Check.argument("0 columns", () -> x.project(0, 0, 0));
        Check.argument("5 columns", () -> x.project(0, 5, 0));
        Check.argument("-1 columns", () -> x.project(0, -1, 0));
        Check.argument("far", () -> x.project(0, Integer.MIN_VALUE, 0));
        Check.argument("bits are not looked at", () -> x.project(0, 0, -1));
        Check.argument("bits are not looked at", () -> x.project(0, 5, -1));
        Check.index("index before argument", () -> x.project(3, 5, 0));
        Check.fillViews(x);
        Check.index("index before state", () -> x.project(0, 1, 2));
        Check.argument("argument before state", () -> x.project(0, 5, 0));
        Check.state("twelve views", () -> x.project(0, 1, 0));
    }
}
