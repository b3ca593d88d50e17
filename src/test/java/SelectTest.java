/** Promise 5: select. */
public final class SelectTest {
    public static void main(String[] args) {
        tests();
        wrongInputs();
        Check.end();
    }

    private static void tests() {
        DeltaViews x = Check.withTable(
                Check.r(1, 5, 2), Check.r(2, 5, 3), Check.r(2, 6, 4), Check.r(3, -7, 5));
        Check.due("its number", x.select(0, 0, 0, 2), 3);
        Check.due("its number", x.select(0, 0, 1, 2), 4);
        Check.due("its number", x.select(0, 0, 2, 2), 5);
        Check.bag("less", x, 3, 2, Check.row(1, 5, 2));
        Check.bag("equal", x, 4, 2, Check.row(2, 5, 3), Check.row(2, 6, 4));
        Check.bag("greater", x, 5, 2, Check.row(3, -7, 5));
        Check.bag("column 1", x, x.select(0, 1, 0, 5), 2, Check.row(3, -7, 5));
        Check.bag("of a view", x, x.select(4, 1, 1, 6), 2, Check.row(2, 6, 4));
        Check.bag("far number", x, x.select(0, 1, 0, Integer.MIN_VALUE), 2);
        Check.due("far number", x.rows(x.select(0, 1, 2, Integer.MIN_VALUE)), 4);
        Check.due("far number", x.rows(x.select(0, 1, 0, Integer.MAX_VALUE)), 4);
    }

    private static void wrongInputs() {
        DeltaViews x = Check.withTable(Check.r(1, 5, 2));
        Check.index("no view", () -> x.select(3, 0, 0, 0));
        Check.index("no view", () -> x.select(-1, 0, 0, 0));
        Check.index("no column", () -> x.select(0, 2, 0, 0));
        Check.index("no column", () -> x.select(0, -1, 0, 0));
        Check.argument("no test", () -> x.select(0, 0, 3, 0));
        Check.argument("no test", () -> x.select(0, 0, -1, 0));
        Check.index("index before argument", () -> x.select(0, 2, 3, 0));
        Check.fillViews(x);
        Check.index("index before state", () -> x.select(12, 0, 0, 0));
        Check.argument("argument before state", () -> x.select(11, 0, 3, 0));
        Check.state("twelve views", () -> x.select(11, 0, 2, 0));
        Check.due("still twelve", x.drop(), 11);
        Check.due("room again", x.select(10, 0, 2, 0), 11);
    }
}
