/** Promise 8: union. */
public final class UnionTest {
    public static void main(String[] args) {
        multiplicitiesAreAdded();
        tooManyRows();
        sumsThatWrapToZero();
        rowsThatCancelOutMakeRoom();
        tooManyThoughSomeCancelOut();
        wrongInputs();
        Check.end();
    }

    private static void multiplicitiesAreAdded() {
        DeltaViews x = Check.withTable(Check.r(1, 5, 99), Check.r(3, 7, 3));
        Check.commitTo(x, 1, Check.r(1, 5, 99), Check.r(2, 0, 4), Check.r(3, 6, 1));
        Check.due("its number", x.union(0, 1), 3);
        Check.bag("both", x, 3, 2,
                Check.row(1, 5, 198), Check.row(2, 0, 4), Check.row(3, 6, 1), Check.row(3, 7, 3));
        Check.bag("itself", x, x.union(0, 0), 2, Check.row(1, 5, 198), Check.row(3, 7, 6));
        Check.bag("with nothing", x, x.union(2, 0), 2, Check.row(1, 5, 99), Check.row(3, 7, 3));
        int one = x.project(0, 1, 0);
        Check.bag("narrow", x, x.union(one, one), 1, Check.row(1, 198), Check.row(3, 6));
    }

    private static void tooManyRows() {
        DeltaViews x = new DeltaViews();
        for (int table = 0; table < 2; table++) {
            for (int n = 0; n < 8; n++) {
                x.change(table, n, table, 1);
            }
            x.commit();
        }
        x.change(2, 0, 0, 1);
        x.change(2, 0, 2, 1);
        x.commit();
        int most = x.union(0, 1);
        Check.due("sixteen", x.rows(most), 16);
        Check.state("seventeen", () -> x.union(most, 2));
        Check.state("seventeen", () -> x.union(2, most));
        Check.index("made none", () -> x.width(4));
        Check.due("no new rows", x.rows(x.union(most, most)), 16);
        x.change(2, 0, 2, -1);
        x.commit();
        int three = x.union(most, 2);
        Check.due("sixteen", x.rows(three), 16);
        x.change(2, 0, 2, 1);
        Check.state("seventeen by a commit", () -> x.commit());
        Check.due("as before", x.rows(three), 16);
        Check.due("as before", x.rows(2), 1);
    }

    private static void sumsThatWrapToZero() {
        DeltaViews x = Check.withTable(Check.r(1, 1, 64), Check.r(1, 2, 64), Check.r(2, 2, 1));
        int key = x.project(0, 1, 0);
        int second = x.join(key, key, 0, 0);
        int fourth = x.join(second, second, 0, 0);
        int narrow = x.project(fourth, 1, 0);
        int eighth = x.join(narrow, narrow, 0, 0);
        int ninth = x.join(key, eighth, 0, 0);
        Check.bag("2 to the 64th is 0", x, x.union(ninth, ninth), 3, Check.row(2, 2, 2, 2));
        x.drop();
        x.drop();
        int tenth = x.join(eighth, 0, 0, 0);
        int twice = x.union(tenth, tenth);
        Check.bag("2 to the 63rd", x, twice, 4, Check.row(1, 1, 1, 1, Long.MIN_VALUE),
                Check.row(1, 1, 1, 2, Long.MIN_VALUE), Check.row(2, 2, 2, 2, 2));
        int none = x.project(twice, 1, 0);
        Check.bag("a project's sum is 0", x, none, 1, Check.row(2, 2));
        Check.bag("a group's sum is 0, its row stays", x, x.group(twice, 1, 0, 0), 2,
                Check.row(1, 0, 1), Check.row(2, 2, 1));
        x.change(0, 1, 2, -64);
        x.commit();
        Check.bag("less", x, twice, 4, Check.row(1, 1, 1, 1, 1L << 55), Check.row(2, 2, 2, 2, 2));
        Check.bag("in the bag again", x, none, 1, Check.row(1, 1L << 55), Check.row(2, 2));
    }

    /**
     * The two have 24 rows together, of which 8 are in both with multiplicities that add to 0;
     * these come last, so that a bag that takes one row after the other has all 24 for a while.
     */
    private static void rowsThatCancelOutMakeRoom() {
        DeltaViews x = new DeltaViews();
        for (int c = 0; c < 4; c++) {
            x.change(2, 5, c, 64);
            x.change(0, 5, c + 2, 1);
        }
        x.commit();
        Check.commitTo(x, 1, Check.r(5, 0, 3), Check.r(5, 1, 3), Check.r(5, 2, 3), Check.r(5, 3, 3));
        int wide = 2;
        for (int square = 0; square < 3; square++) {
            wide = x.project(x.join(wide, wide, 0, 0), 2, 0x10);
        }
        Check.due("2 to the 62nd", x.times(wide, 3), 1L << 62);
        int left = x.join(0, wide, 0, 0);
        int right = x.join(1, wide, 0, 0);
        Check.due("sixteen in both", x.rows(left) + x.rows(right), 32);
        int both = x.union(left, right);
        long[][] want = new long[16][];
        for (int n = 0; n < 16; n++) {
            want[n] = n < 8 ? Check.row(5, n / 4, 5, n % 4, 3L << 62)
                    : Check.row(5, n / 4 + 2, 5, n % 4, 1L << 62);
        }
        Check.bag("sixteen are left", x, both, 4, want);
        x.change(1, 5, 2, 1);
        Check.state("four come back by a commit", () -> x.commit());
        x.change(0, 5, 5, 3);
        Check.due("rows go whose product is 0", x.commit(), 1);
        Check.due("twelve are left", x.rows(both), 12);
        Check.due("moved", x.moved(both), 4);
    }

    /** 16 rows, 12 others, and then four that cancel out: 24 are left, which are too many. */
    private static void tooManyThoughSomeCancelOut() {
        DeltaViews x = new DeltaViews();
        for (int c = 0; c < 4; c++) {
            x.change(2, 5, c, 64);
            x.change(0, 5, c + 3, 1);
        }
        x.commit();
        Check.commitTo(x, 1, Check.r(5, 2, 3), Check.r(5, 3, 3));
        int wide = 2;
        for (int square = 0; square < 3; square++) {
            wide = x.project(x.join(wide, wide, 0, 0), 2, 0x10);
        }
        int left = x.join(0, wide, 0, 0);
        int right = x.join(1, wide, 0, 0);
        int both = x.union(left, right);
        Check.due("16 and 8, of which four in both", x.rows(both), 16);
        x.change(1, 5, 0, 3);
        x.change(1, 5, 1, 3);
        Check.state("24 by a commit", () -> x.commit());
        Check.due("as before", x.rows(both), 16);
        x.drop();
        Check.commitTo(x, 1, Check.r(5, 0, 3), Check.r(5, 1, 3));
        Check.due("sixteen", x.rows(right), 16);
        Check.state("24 by making it", () -> x.union(left, right));
        Check.state("24 the other way", () -> x.union(right, left));
    }

    private static void wrongInputs() {
        DeltaViews x = Check.withTable(Check.r(1, 2, 3));
        int one = x.project(0, 1, 0);
        Check.index("no e", () -> x.union(4, 0));
        Check.index("no e", () -> x.union(-1, 0));
        Check.index("no f", () -> x.union(0, 4));
        Check.index("no f", () -> x.union(0, -1));
        Check.argument("widths differ", () -> x.union(0, one));
        Check.argument("widths differ", () -> x.union(one, 0));
        Check.fillViews(x);
        Check.index("index before state", () -> x.union(12, 0));
        Check.argument("argument before state", () -> x.union(one, 0));
        Check.state("twelve views", () -> x.union(0, 0));
    }
}
