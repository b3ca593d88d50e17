/** Promises 10 and 11: distinct and drop. */
public final class DistinctAndDropTest {
    public static void main(String[] args) {
        distinct();
        distinctWrongInputs();
        drop();
        dropOfAll();
        Check.end();
    }

    private static void distinct() {
        DeltaViews x = Check.withTable(Check.r(2, 5, 99), Check.r(-2, 6, 1), Check.r(2, 4, 7));
        Check.due("its number", x.distinct(0), 3);
        Check.bag("once each", x, 3, 2, Check.row(-2, 6, 1), Check.row(2, 4, 1), Check.row(2, 5, 1));
        int four = x.join(0, 0, 1, 1);
        Check.bag("of four", x, x.distinct(four), 4, Check.row(-2, 6, -2, 6, 1),
                Check.row(2, 4, 2, 4, 1), Check.row(2, 5, 2, 5, 1));
        x.change(0, 2, 5, -98);
        x.change(0, 2, 4, -7);
        x.commit();
        Check.bag("once each", x, 3, 2, Check.row(-2, 6, 1), Check.row(2, 5, 1));
        Check.due("moved", x.moved(3), 1);
    }

    private static void distinctWrongInputs() {
        DeltaViews x = new DeltaViews();
        Check.index("no view", () -> x.distinct(3));
        Check.index("no view", () -> x.distinct(-1));
        Check.index("no view", () -> x.distinct(Integer.MIN_VALUE));
        Check.fillViews(x);
        Check.index("index before state", () -> x.distinct(12));
        Check.state("twelve views", () -> x.distinct(11));
    }

    private static void drop() {
        DeltaViews x = Check.withTable(Check.r(1, 2, 3));
        Check.state("the tables alone", () -> x.drop());
        x.distinct(0);
        x.project(0, 4, 0);
        x.distinct(4);
        Check.due("five are left", x.drop(), 5);
        Check.index("it is no more", () -> x.rows(5));
        Check.due("four are left", x.drop(), 4);
        Check.due("the number is free", x.group(3, 1, 1, 0), 4);
        Check.bag("another view", x, 4, 2, Check.row(2, 1, 1));
        Check.due("the next", x.union(4, 4), 5);
        x.drop();
        x.drop();
        Check.due("three are left", x.drop(), 3);
        Check.state("the tables alone", () -> x.drop());
        Check.bag("the table is there", x, 0, 2, Check.row(1, 2, 3));

        int wide = x.join(0, 0, 0, 0);
        x.change(1, 1, 1, 1);
        x.drop();
        Check.due("the batch is there", x.commit(), 1);
        Check.index("dropped", () -> x.moved(wide));
        tooManyRowsInADroppedView();
    }

    private static void tooManyRowsInADroppedView() {
        DeltaViews x = Check.withTable(Check.r(1, 1, 1), Check.r(1, 2, 1), Check.r(1, 3, 1),
                Check.r(1, 4, 1));
        x.join(0, 0, 0, 0);
        x.change(0, 1, 5, 1);
        Check.state("25 rows", () -> x.commit());
        x.drop();
        x.change(0, 1, 5, 1);
        Check.due("it is no more", x.commit(), 1);
    }

    /** "how many there are then": from 12 down to the tables alone. */
    private static void dropOfAll() {
        DeltaViews x = Check.withTable(Check.r(1, 2, 3));
        Check.fillViews(x);
        for (int left = 11; left >= 3; left--) {
            int gone = left;
            Check.due("left", x.drop(), left);
            Check.index("it is no more", () -> x.width(gone));
            Check.due("the one before is there", x.rows(left - 1), left > 3 ? 1 : 0);
        }
        Check.state("the tables alone", () -> x.drop());
        Check.state("the tables alone, again", () -> x.drop());
        Check.due("three still", x.distinct(0), 3);
    }
}
