/** Promise 9: group. */
public final class GroupTest {
    public static void main(String[] args) {
        kinds();
        otherColumns();
        sumsOfZero();
        sumsThatWrap();
        wrongInputs();
        Check.end();
    }

    private static void kinds() {
        DeltaViews x = Check.withTable(Check.r(2, 5, 3), Check.r(2, -8, 2), Check.r(-1, -6, 4),
                Check.r(-1, -9, 1), Check.r(7, 0, 9));
        Check.due("its number", x.group(0, 0, 0, 1), 3);
        Check.bag("sum", x, 3, 2, Check.row(-1, -33, 1), Check.row(2, -1, 1), Check.row(7, 0, 1));
        Check.bag("count", x, x.group(0, 1, 0, 1), 2,
                Check.row(-1, 5, 1), Check.row(2, 5, 1), Check.row(7, 9, 1));
        Check.bag("most", x, x.group(0, 2, 0, 1), 2,
                Check.row(-1, -6, 1), Check.row(2, 5, 1), Check.row(7, 0, 1));
        Check.bag("nothing", x, x.group(1, 1, 0, 0), 2);
        x.change(0, 2, 5, -3);
        x.change(0, -1, -6, 1);
        x.commit();
        Check.bag("sum", x, 3, 2, Check.row(-1, -39, 1), Check.row(2, -16, 1), Check.row(7, 0, 1));
        Check.bag("count", x, 4, 2, Check.row(-1, 6, 1), Check.row(2, 2, 1), Check.row(7, 9, 1));
        Check.bag("most", x, 5, 2, Check.row(-1, -6, 1), Check.row(2, -8, 1), Check.row(7, 0, 1));
    }

    private static void otherColumns() {
        DeltaViews x = Check.withTable(Check.r(1, 5, 2), Check.r(2, 4, 3), Check.r(3, 5, 1));
        Check.bag("by the second", x, x.group(0, 0, 1, 0), 2, Check.row(4, 6, 1), Check.row(5, 5, 1));
        Check.bag("most by the second", x, x.group(0, 2, 1, 0), 2,
                Check.row(4, 2, 1), Check.row(5, 3, 1));
        Check.bag("of the same", x, x.group(0, 0, 1, 1), 2, Check.row(4, 12, 1), Check.row(5, 15, 1));
        int four = x.join(0, 0, 1, 1);
        Check.bag("of four", x, x.group(four, 0, 3, 2), 2, Check.row(4, 18, 1), Check.row(5, 15, 1));
        int one = x.project(0, 1, 1);
        Check.bag("of one", x, x.group(one, 1, 0, 0), 2, Check.row(4, 3, 1), Check.row(5, 3, 1));
    }

    private static void sumsOfZero() {
        DeltaViews x = Check.withTable(Check.r(1, 5, 2), Check.r(1, -10, 1));
        Check.bag("a sum of 0 is a row", x, x.group(0, 0, 0, 1), 2, Check.row(1, 0, 1));
    }

    private static void sumsThatWrap() {
        DeltaViews x = Check.withTable(Check.r(3, 4, 99), Check.r(4, -999, 98));
        int four = x.join(0, 0, 0, 0);
        int two = x.project(four, 2, 0x10);
        int eight = x.join(two, two, 0, 0);
        int less = x.project(eight, 2, 0x10);
        int most = x.join(less, less, 0, 0);
        long third = 96059601L * 96059601L;
        long fourth = 92236816L * 92236816L;
        Check.bag("great", x, most, 4, Check.row(3, 4, 3, 4, third), Check.row(4, -999, 4, -999, fourth));
        Check.bag("sum wraps", x, x.group(most, 0, 2, 1), 2,
                Check.row(3, 4 * (int) third, 1), Check.row(4, -999 * (int) fourth, 1));
        Check.bag("count wraps", x, x.group(most, 1, 2, 1), 2,
                Check.row(3, (int) third, 1), Check.row(4, (int) fourth, 1));
        Check.bag("most does not", x, x.group(most, 2, 2, 1), 2, Check.row(3, 4, 1), Check.row(4, -999, 1));
    }

    private static void wrongInputs() {
        DeltaViews x = Check.withTable(Check.r(1, 2, 3));
        Check.index("no view", () -> x.group(3, 0, 0, 0));
        Check.index("no view", () -> x.group(-1, 0, 0, 0));
        for (int kind = 0; kind < 3; kind++) {
            int same = kind;
            Check.index("no i", () -> x.group(0, same, 2, 0));
            Check.index("no i", () -> x.group(0, same, -1, 0));
            Check.index("no k", () -> x.group(0, same, 0, 2));
            Check.index("no k", () -> x.group(0, same, 0, -1));
        }
        Check.argument("no kind", () -> x.group(0, 3, 0, 0));
        Check.argument("no kind", () -> x.group(0, -1, 0, 0));
        Check.index("index before argument", () -> x.group(0, 3, 0, 2));
        Check.fillViews(x);
        Check.index("index before state", () -> x.group(0, 1, 0, 2));
        Check.argument("argument before state", () -> x.group(0, 3, 0, 0));
        Check.state("twelve views", () -> x.group(0, 1, 0, 0));
    }
}
