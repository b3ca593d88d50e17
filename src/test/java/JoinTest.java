/** Promise 7: join. */
public final class JoinTest {
    public static void main(String[] args) {
        pairs();
        withItself();
        widths();
        tooManyRows();
        productsThatWrapToZero();
        wrongInputs();
        Check.end();
    }

    private static void pairs() {
        DeltaViews x = Check.withTable(Check.r(1, 5, 2), Check.r(2, 7, 3), Check.r(3, 5, 4));
        Check.commitTo(x, 1, Check.r(5, 8, 5), Check.r(5, 9, 6), Check.r(6, 5, 7));
        Check.due("its number", x.join(0, 1, 1, 0), 3);
        Check.bag("pairs", x, 3, 4,
                Check.row(1, 5, 5, 8, 10), Check.row(1, 5, 5, 9, 12),
                Check.row(3, 5, 5, 8, 20), Check.row(3, 5, 5, 9, 24));
        Check.bag("other columns", x, x.join(1, 0, 1, 1), 4,
                Check.row(6, 5, 1, 5, 14), Check.row(6, 5, 3, 5, 28));
        Check.bag("nothing equal", x, x.join(1, 0, 1, 0), 4);
    }

    private static void withItself() {
        DeltaViews x = Check.withTable(Check.r(1, 2, 3), Check.r(2, 2, 5));
        Check.bag("itself", x, x.join(0, 0, 1, 0), 4,
                Check.row(1, 2, 2, 2, 15), Check.row(2, 2, 2, 2, 25));
    }

    private static void widths() {
        DeltaViews x = Check.withTable(Check.r(1, 2, 3));
        int one = x.project(0, 1, 1);
        int three = x.join(0, one, 1, 0);
        Check.bag("2 and 1", x, three, 3, Check.row(1, 2, 2, 9));
        Check.bag("1 and 2", x, x.join(one, 0, 0, 1), 3, Check.row(2, 1, 2, 9));
        Check.bag("3 and 1", x, x.join(three, one, 2, 0), 4, Check.row(1, 2, 2, 2, 27));
        Check.bag("1 and 1", x, x.join(one, one, 0, 0), 2, Check.row(2, 2, 9));
        Check.argument("3 and 2", () -> x.join(three, 0, 0, 0));
        Check.argument("2 and 3", () -> x.join(0, three, 0, 0));
    }

    private static void tooManyRows() {
        DeltaViews x = new DeltaViews();
        for (int n = 0; n < 8; n++) {
            x.change(0, 1, n, 1);
        }
        x.commit();
        Check.commitTo(x, 1,
                Check.r(1, 0, 1), Check.r(1, 1, 1), Check.r(2, 1, 1), Check.r(3, 1, 1));
        int most = x.join(0, 1, 0, 0);
        Check.due("sixteen", x.rows(most), 16);
        Check.due("in order", x.cell(most, 15, 1) * 10 + x.cell(most, 15, 3), 71);
        Check.state("24", () -> x.join(1, 0, 1, 0));
        Check.state("64", () -> x.join(0, 0, 0, 0));
        Check.due("made none", x.drop(), 3);
        Check.state("64 at that place", () -> x.join(0, 0, 0, 0));
        Check.index("made none", () -> x.width(3));
        Check.due("the place is used again", x.group(1, 1, 0, 0), 3);
        Check.bag("the place is clean", x, 3, 2,
                Check.row(1, 2, 1), Check.row(2, 1, 1), Check.row(3, 1, 1));
    }

    private static void productsThatWrapToZero() {
        DeltaViews x = Check.withTable(Check.r(1, 1, 64), Check.r(1, 2, 64), Check.r(2, 2, 3));
        int key = x.project(0, 1, 0);
        int second = x.join(key, key, 0, 0);
        int fourth = x.join(second, second, 0, 0);
        int narrow = x.project(fourth, 1, 0);
        int eighth = x.join(narrow, narrow, 0, 0);
        Check.bag("2 to the 56th", x, eighth, 2, Check.row(1, 1, 1L << 56), Check.row(2, 2, 6561));
        int sixteenth = x.join(eighth, eighth, 0, 0);
        Check.bag("2 to the 112th is 0", x, sixteenth, 4, Check.row(2, 2, 2, 2, 43046721));
        int ninth = x.join(key, eighth, 0, 0);
        Check.bag("2 to the 63rd", x, ninth, 3,
                Check.row(1, 1, 1, Long.MIN_VALUE), Check.row(2, 2, 2, 19683));
        x.change(0, 1, 1, -63);
        x.change(0, 1, 2, -64);
        x.commit();
        Check.bag("in the bag again", x, sixteenth, 4,
                Check.row(1, 1, 1, 1, 1), Check.row(2, 2, 2, 2, 43046721));
        Check.due("moved by that", x.moved(sixteenth), 1);
        Check.due("moved by that", x.moved(ninth), 1);
    }

    private static void wrongInputs() {
        DeltaViews x = Check.withTable(Check.r(1, 2, 3));
        Check.index("no e", () -> x.join(3, 0, 0, 0));
        Check.index("no e", () -> x.join(-1, 0, 0, 0));
        Check.index("no f", () -> x.join(0, 3, 0, 0));
        Check.index("no f", () -> x.join(0, -1, 0, 0));
        Check.index("no i", () -> x.join(0, 1, 2, 0));
        Check.index("no i", () -> x.join(0, 1, -1, 0));
        Check.index("no j", () -> x.join(0, 1, 0, 2));
        Check.index("no j", () -> x.join(0, 1, 0, -1));
        int one = x.project(0, 1, 0);
        Check.index("i is of e", () -> x.join(one, 0, 1, 0));
        Check.index("j is of f", () -> x.join(0, one, 0, 1));
        int four = x.join(0, 0, 0, 0);
        Check.argument("too wide", () -> x.join(four, one, 3, 0));
        Check.index("index before argument", () -> x.join(four, one, 3, 1));
        Check.fillViews(x);
        Check.index("index before state", () -> x.join(0, 0, 0, 2));
        Check.argument("argument before state", () -> x.join(four, one, 0, 0));
        Check.state("twelve views", () -> x.join(0, 0, 0, 0));
    }
}
