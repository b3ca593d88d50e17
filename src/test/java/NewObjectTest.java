/** Promise 1: a new object has the tables alone, empty, and an empty batch. */
public final class NewObjectTest {
    public static void main(String[] args) {
        DeltaViews x = new DeltaViews();
        for (int table = 0; table < 3; table++) {
            Check.bag("new table", x, table, 2);
            Check.due("moved of a new table", x.moved(table), 0);
            Check.due("many in a new table", x.many(table, 0, 0, 0, 0), 0);
        }
        Check.index("no view 3", () -> x.width(3));
        Check.state("nothing to drop", () -> x.drop());
        Check.due("new batch", x.cancel(), 0);
        Check.due("first view", x.distinct(2), 3);

        DeltaViews other = Check.withTable(Check.r(1, 2, 3));
        other.change(1, 1, 1, 1);
        Check.bag("objects share nothing", x, 0, 2);
        Check.due("nor a batch", x.cancel(), 0);
        Check.end();
    }
}
