/** Promises 2 and 3: change and cancel. */
public final class BatchTest {
    public static void main(String[] args) {
        changesAreCountedAndWait();
        edgesOfNumbers();
        orderOfExceptions();
        aThrowChangesNothing();
        cancelEmpties();
        otherCallsLeaveTheBatch();
        Check.end();
    }

    private static void changesAreCountedAndWait() {
        DeltaViews x = new DeltaViews();
        for (int n = 1; n <= 8; n++) {
            Check.due("change " + n, x.change(n % 3, n, -n, n), n);
        }
        Check.state("a ninth change", () -> x.change(0, 0, 0, 0));
        Check.due("tables wait for the commit", x.rows(0) + x.rows(1) + x.rows(2), 0);
        Check.due("all eight are made", x.commit(), 8);
        Check.bag("table 0", x, 0, 2, Check.row(3, -3, 3), Check.row(6, -6, 6));
        Check.bag("table 1", x, 1, 2, Check.row(1, -1, 1), Check.row(4, -4, 4), Check.row(7, -7, 7));
        Check.bag("table 2", x, 2, 2, Check.row(2, -2, 2), Check.row(5, -5, 5), Check.row(8, -8, 8));
        Check.due("the batch begins anew", x.change(0, 0, 0, 0), 1);
    }

    private static void edgesOfNumbers() {
        DeltaViews x = new DeltaViews();
        Check.due("greatest", x.change(2, 1000, 1000, 99), 1);
        Check.due("least", x.change(0, -1000, -1000, -99), 2);
        Check.due("by 0", x.change(1, 0, 0, 0), 3);
        Check.index("table -1", () -> x.change(-1, 0, 0, 1));
        Check.index("table 3", () -> x.change(3, 0, 0, 1));
        Check.index("table least", () -> x.change(Integer.MIN_VALUE, 0, 0, 1));
        for (int far : new int[] {1001, -1001, Integer.MAX_VALUE, Integer.MIN_VALUE}) {
            Check.argument("a " + far, () -> x.change(0, far, 0, 1));
            Check.argument("b " + far, () -> x.change(0, 0, far, 1));
        }
        for (int far : new int[] {100, -100, Integer.MAX_VALUE, Integer.MIN_VALUE}) {
            Check.argument("by " + far, () -> x.change(0, 0, 0, far));
        }
        Check.due("only three were put", x.cancel(), 3);
    }

    private static void orderOfExceptions() {
        DeltaViews x = new DeltaViews();
        x.distinct(0);
        Check.index("a view that is no table", () -> x.change(3, 0, 0, 1));
        Check.index("index before argument", () -> x.change(3, 1001, 0, 1));
        for (int n = 0; n < 8; n++) {
            x.change(0, 0, 0, 0);
        }
        Check.index("index before state", () -> x.change(-1, 0, 0, 1));
        Check.argument("argument before state", () -> x.change(0, 0, 0, 100));
        Check.state("state", () -> x.change(0, 0, 0, 99));
    }

    private static void aThrowChangesNothing() {
        DeltaViews x = new DeltaViews();
        x.change(0, 1, 1, 1);
        Check.argument("far", () -> x.change(0, 5, 5, 100));
        Check.due("the next one", x.change(0, 2, 2, 2), 2);
        Check.due("commit", x.commit(), 2);
        Check.bag("table", x, 0, 2, Check.row(1, 1, 1), Check.row(2, 2, 2));
    }

    private static void cancelEmpties() {
        DeltaViews x = new DeltaViews();
        x.change(0, 1, 1, 1);
        x.change(0, 1, 1, -1);
        x.change(0, 1, 1, 0);
        Check.due("had three", x.cancel(), 3);
        Check.due("has none", x.cancel(), 0);
        Check.due("nothing to make", x.commit(), 0);
        Check.bag("table", x, 0, 2);
        Check.due("begins anew", x.change(0, 7, 7, 7), 1);
        x.commit();
        Check.bag("table", x, 0, 2, Check.row(7, 7, 7));
        Check.due("a commit empties it too", x.cancel(), 0);
    }

    private static void otherCallsLeaveTheBatch() {
        DeltaViews x = Check.withTable(Check.r(1, 2, 3));
        x.change(0, 1, 2, 4);
        int[] made = {x.select(0, 0, 1, 1), x.project(0, 1, 0), x.join(0, 0, 0, 0), x.union(0, 1),
            x.group(0, 1, 0, 0), x.distinct(0)};
        for (int view : made) {
            Check.due("the views see no change that waits", x.rows(view), 1);
        }
        Check.due("nor does the table", x.times(0, 0), 3);
        Check.due("nor many", x.many(0, 1, 2, 0, 0), 3);
        Check.due("it is no commit", x.moved(0), 1);
        Check.due("a cell", x.cell(0, 0, 1), 2);
        Check.due("a width", x.width(4), 1);
        x.drop();
        Check.due("the second change", x.change(0, 1, 2, 5), 2);
        Check.due("both are made", x.commit(), 1);
        Check.due("both are made", x.times(0, 0), 12);
    }
}
