/** Promise 4: commit. */
public final class CommitTest {
    public static void main(String[] args) {
        emptyBatch();
        changesOfTheSameRowAreAdded();
        multiplicitiesKeepTheirRange();
        tablesKeepTheirRows();
        unionsKeepTheirRows();
        joinsKeepTheirRows();
        viewsFollowFromTheTablesUpward();
        Check.end();
    }

    private static void emptyBatch() {
        DeltaViews x = Check.withTable(Check.r(1, 2, 3));
        Check.due("empty", x.commit(), 0);
        x.change(0, 1, 2, 0);
        x.change(2, 9, 9, 0);
        Check.due("by 0", x.commit(), 0);
        Check.bag("as before", x, 0, 2, Check.row(1, 2, 3));
        Check.bag("by 0 makes no row", x, 2, 2);
    }

    private static void changesOfTheSameRowAreAdded() {
        DeltaViews x = new DeltaViews();
        x.change(0, 1, 1, -50);
        x.change(0, 1, 1, 99);
        x.change(0, 1, 1, 50);
        x.change(1, 1, 1, 5);
        x.change(1, 2, 2, 7);
        x.change(1, 2, 2, -7);
        Check.due("rows that differ", x.commit(), 2);
        Check.bag("only the sum counts", x, 0, 2, Check.row(1, 1, 99));
        Check.bag("cancelled out", x, 1, 2, Check.row(1, 1, 5));
        Check.due("batch", x.cancel(), 0);

        x.change(0, 1, 1, -99);
        x.change(0, 0, 5, 1);
        x.change(1, 1, 1, 1);
        Check.due("gone, new and changed", x.commit(), 3);
        Check.bag("table 0", x, 0, 2, Check.row(0, 5, 1));
        Check.bag("table 1", x, 1, 2, Check.row(1, 1, 6));
    }

    private static void multiplicitiesKeepTheirRange() {
        DeltaViews x = Check.withTable(Check.r(1, 1, 98), Check.r(2, 2, 1));
        x.change(0, 3, 3, 1);
        x.change(0, 1, 1, 2);
        Check.state("above 99", () -> x.commit());
        Check.bag("nothing changed", x, 0, 2, Check.row(1, 1, 98), Check.row(2, 2, 1));
        Check.due("but the batch", x.cancel(), 0);
        x.change(1, 0, 0, 4);
        x.change(0, 2, 2, -2);
        Check.state("below 0", () -> x.commit());
        Check.bag("no table changed", x, 1, 2);
        x.change(2, 0, 0, -1);
        Check.state("below 0, no such row", () -> x.commit());
        Check.due("moved by the latest that was done", x.moved(0), 2);
        x.change(0, 1, 1, 1);
        x.change(0, 2, 2, -1);
        Check.due("the edges", x.commit(), 2);
        Check.bag("99 and 0", x, 0, 2, Check.row(1, 1, 99));
        for (int n = 0; n < 8; n++) {
            x.change(1, 0, 0, 99);
        }
        Check.state("far above 99", () -> x.commit());
    }

    private static void tablesKeepTheirRows() {
        DeltaViews x = new DeltaViews();
        for (int n = 0; n < 8; n++) {
            x.change(0, n, -n, 1);
        }
        Check.due("eight", x.commit(), 8);
        x.change(0, 8, 0, 1);
        Check.state("nine", () -> x.commit());
        Check.due("eight still", x.rows(0), 8);
        Check.due("batch", x.cancel(), 0);
        x.change(0, 8, 0, 1);
        x.change(0, 0, 0, -1);
        Check.due("one comes before one goes", x.commit(), 2);
        Check.due("eight", x.rows(0), 8);
        Check.due("last", x.cell(0, 7, 0), 8);
        for (int n = 0; n < 4; n++) {
            x.change(0, 20 + n, 0, 1);
            x.change(0, 1 + n, -1 - n, -1);
        }
        Check.due("half of them", x.commit(), 8);
        for (int n = 0; n < 8; n++) {
            x.change(0, 100 + n, 0, 1);
        }
        Check.state("sixteen", () -> x.commit());
        Check.due("first", x.cell(0, 0, 0), 5);
    }

    private static void unionsKeepTheirRows() {
        DeltaViews x = new DeltaViews();
        for (int n = 0; n < 8; n++) {
            x.change(0, 0, n, 1);
        }
        x.commit();
        for (int n = 0; n < 7; n++) {
            x.change(1, 1, n, 1);
        }
        x.commit();
        int two = x.union(0, 1);
        int three = x.union(two, 2);
        int counts = x.group(three, 1, 0, 0);
        x.change(2, 2, 2, 9);
        Check.due("sixteen", x.commit(), 1);
        x.change(1, 1, 7, 1);
        Check.state("seventeen in the upper of two views", () -> x.commit());
        Check.due("fifteen still", x.rows(two), 15);
        Check.due("sixteen still", x.rows(three), 16);
        Check.due("the table", x.rows(1), 7);
        Check.bag("as before", x, counts, 2,
                Check.row(0, 8, 1), Check.row(1, 7, 1), Check.row(2, 9, 1));
        Check.due("moved as before", x.moved(counts), 1);
        x.change(1, 1, 7, 1);
        x.change(2, 2, 2, -9);
        Check.due("one comes before one goes", x.commit(), 2);
        Check.bag("sixteen", x, counts, 2, Check.row(0, 8, 1), Check.row(1, 8, 1));
        Check.due("moved", x.moved(counts), 3);
    }

    private static void joinsKeepTheirRows() {
        DeltaViews x = new DeltaViews();
        for (int n = 0; n < 8; n++) {
            x.change(0, 0, n, 1);
        }
        x.commit();
        Check.commitTo(x, 2, Check.r(2, 5, 1));
        int join = x.join(0, 2, 0, 0);
        int count = x.group(0, 1, 0, 0);
        int last = x.distinct(join);
        Check.due("nothing to join", x.rows(join), 0);
        x.change(2, 0, 7, 1);
        x.change(2, 0, 8, 1);
        Check.due("sixteen", x.commit(), 2);
        Check.due("sixteen", x.rows(join), 16);
        Check.due("sixteen above", x.rows(last), 16);
        x.change(2, 0, 7, 1);
        x.change(0, 0, 0, 1);
        x.change(2, 2, 5, -1);
        x.change(2, 0, 9, 1);
        Check.state("24", () -> x.commit());
        Check.due("sixteen still", x.rows(join), 16);
        Check.due("times as before", x.many(join, 0, 0, 0, 7), 1);
        Check.due("table as before", x.many(0, 0, 0, 0, 0), 1);
        Check.due("other table as before", x.many(2, 2, 5, 0, 0), 1);
        Check.due("moved as before", x.moved(join), 16);
        Check.due("moved above as before", x.moved(last), 16);
        Check.due("moved of another as before", x.moved(count), 0);
        Check.due("batch", x.cancel(), 0);
        x.change(2, 2, 5, -1);
        for (int n = 10; n < 16; n++) {
            x.change(2, 0, n, 1);
        }
        Check.state("64", () -> x.commit());
        Check.due("as before", x.many(last, 0, 7, 0, 8), 1);
        x.change(0, 0, 7, -1);
        Check.due("one less", x.commit(), 1);
        Check.due("fourteen", x.rows(last), 14);
    }

    private static void viewsFollowFromTheTablesUpward() {
        DeltaViews x = Check.withTable(Check.r(1, 10, 2), Check.r(2, 20, 1));
        int big = x.select(0, 1, 2, 15);
        int key = x.project(big, 1, 0);
        int twice = x.union(key, key);
        int pairs = x.join(twice, 0, 0, 0);
        int sum = x.group(pairs, 0, 0, 2);
        Check.bag("sum", x, sum, 2, Check.row(2, 40, 1));
        x.change(0, 1, 30, 3);
        Check.due("commit", x.commit(), 1);
        Check.bag("select", x, big, 2, Check.row(1, 30, 3), Check.row(2, 20, 1));
        Check.bag("project", x, key, 1, Check.row(1, 3), Check.row(2, 1));
        Check.bag("union", x, twice, 1, Check.row(1, 6), Check.row(2, 2));
        Check.bag("join", x, pairs, 3,
                Check.row(1, 1, 10, 12), Check.row(1, 1, 30, 18), Check.row(2, 2, 20, 2));
        Check.bag("sum", x, sum, 2, Check.row(1, 660, 1), Check.row(2, 40, 1));
        x.change(0, 1, 30, -3);
        x.change(0, 1, 10, -2);
        x.change(0, 2, 20, -1);
        Check.due("commit", x.commit(), 3);
        for (int view = 0; view <= sum; view++) {
            Check.due("empty again", x.rows(view), 0);
        }
    }
}
