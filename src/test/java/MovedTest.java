/** Promise 17: moved. */
public final class MovedTest {
    public static void main(String[] args) {
        rowsThatComeGoAndChange();
        onlyCommitsThatWereDone();
        sinceTheViewWasMade();
        asManyAsCan();
        latestOfSeveral();
        Check.end();
    }

    private static void rowsThatComeGoAndChange() {
        DeltaViews x = Check.withTable(Check.r(1, 1, 1), Check.r(1, 2, 2), Check.r(2, 3, 3));
        int keys = x.project(0, 1, 0);
        int sums = x.group(0, 0, 0, 1);
        int once = x.distinct(0);
        int most = x.group(0, 2, 0, 1);
        x.change(0, 1, 1, -1);
        x.change(0, 1, 2, 1);
        x.change(0, 0, 9, 1);
        x.change(0, 2, 3, 1);
        x.change(0, 2, 3, -1);
        x.change(1, 5, 5, 1);
        Check.due("rows of tables", x.commit(), 4);
        Check.due("gone, changed, new", x.moved(0), 3);
        Check.due("another table", x.moved(1), 1);
        Check.due("no change", x.moved(2), 0);
        Check.due("1 is 3 times there as before, 0 is new", x.moved(keys), 1);
        Check.due("1 has another sum, which are two rows, 0 is new", x.moved(sums), 3);
        Check.due("gone and new", x.moved(once), 2);
        Check.due("the greatest of 1 stays", x.moved(most), 1);
        Check.due("empty", x.commit(), 0);
        for (int view = 0; view <= most; view++) {
            Check.due("by an empty commit", x.moved(view), 0);
        }
    }

    private static void onlyCommitsThatWereDone() {
        DeltaViews x = new DeltaViews();
        int view = x.distinct(0);
        x.change(0, 1, 1, -1);
        Check.state("thrown", () -> x.commit());
        Check.due("none was done", x.moved(view), 0);
        Check.commitTo(x, 0, Check.r(1, 1, 1), Check.r(2, 2, 2));
        Check.due("two", x.moved(view), 2);
        x.change(0, 1, 1, -1);
        x.change(0, 2, 2, 98);
        Check.state("thrown", () -> x.commit());
        Check.due("two still", x.moved(view), 2);
        Check.due("two still", x.moved(0), 2);
        x.change(0, 1, 1, 5);
        Check.due("a change alone", x.moved(0), 2);
        x.cancel();
        Check.due("a cancel", x.moved(0), 2);
        x.distinct(0);
        Check.due("another view", x.moved(view), 2);
    }

    private static void sinceTheViewWasMade() {
        DeltaViews x = Check.withTable(Check.r(1, 1, 1));
        int view = x.distinct(0);
        Check.due("made after the commit", x.moved(view), 0);
        Check.due("the table", x.moved(0), 1);
        Check.commitTo(x, 0, Check.r(2, 2, 2), Check.r(3, 3, 3));
        Check.due("since", x.moved(view), 2);
        x.drop();
        Check.due("made again", x.distinct(0), view);
        Check.due("none since", x.moved(view), 0);
        Check.commitTo(x, 0, Check.r(2, 2, 2));
        Check.due("distinct rows stay", x.moved(view), 0);
        Check.due("the table", x.moved(0), 1);
    }

    /** 16 rows go and 16 others come by four changes. */
    private static void asManyAsCan() {
        DeltaViews x = new DeltaViews();
        for (int n = 0; n < 8; n++) {
            x.change(0, 1, n, 1);
        }
        x.commit();
        Check.commitTo(x, 1, Check.r(1, 0, 1), Check.r(1, 1, 1));
        int join = x.join(0, 1, 0, 0);
        Check.due("sixteen rows", x.rows(join), 16);
        Check.due("none yet", x.moved(join), 0);
        Check.commitTo(x, 1, Check.r(1, 0, -1), Check.r(1, 1, -1), Check.r(1, 2, 1), Check.r(1, 3, 1));
        Check.due("all go and all come", x.moved(join), 32);
        Check.due("the table", x.moved(1), 4);
        Check.commitTo(x, 1, Check.r(1, 2, 98), Check.r(1, 3, 1));
        Check.due("all have another multiplicity", x.moved(join), 16);
        Check.commitTo(x, 1, Check.r(1, 2, -99), Check.r(1, 3, -2));
        Check.due("all go", x.moved(join), 16);
        Check.due("none left", x.rows(join), 0);
    }

    /** "by the latest commit that was done", not by all since the view was made. */
    private static void latestOfSeveral() {
        DeltaViews x = new DeltaViews();
        int view = x.union(0, 1);
        Check.commitTo(x, 0, Check.r(1, 1, 1), Check.r(2, 2, 2), Check.r(3, 3, 3));
        Check.due("three", x.moved(view), 3);
        Check.commitTo(x, 1, Check.r(1, 1, 1));
        Check.due("one", x.moved(view), 1);
        x.change(0, 1, 1, 1);
        x.change(1, 1, 1, -1);
        Check.due("two rows of tables", x.commit(), 2);
        Check.due("the sum stays", x.moved(view), 0);
        x.change(0, 9, 9, -1);
        Check.state("thrown", () -> x.commit());
        Check.due("the table still", x.moved(0), 1);
        Check.due("an empty commit is done, too", x.commit(), 0);
        Check.due("the table", x.moved(0), 0);
    }
}
