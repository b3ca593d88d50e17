/**
 * Promise 4: "IllegalStateException when a row of a table would have a multiplicity below 0 or
 * above 99, or a view (or a table) would have too many rows: then nothing is changed but the
 * batch, which is empty." Each limit in each table and each place of a view, with the last batch
 * that is still made and the first that is not.
 */
public final class RefusedCommitTest {
    public static void main(String[] args) {
        multiplicityBelowZero();
        multiplicityAbove99();
        nineRowsInATable();
        seventeenRowsInAJoin();
        seventeenRowsInAUnion();
        seventeenRowsInViewsOfViews();
        severalReasons();
        theBatchIsEmptyThough();
        Check.end();
    }

    private static void multiplicityBelowZero() {
        for (int table = 0; table < 3; table++) {
            int t = table;
            Refusal.dueOfCommit("no row, less by 1", () -> waiting(t, Check.r(9, 9, -1)));
            Refusal.dueOfCommit("5, less by 6", () -> waiting(t, Check.r(8, 8, -6)));
            Refusal.dueOfCommit("5, less by 5 and by 1",
                    () -> waiting(t, Check.r(8, 8, -5), Check.r(8, 8, -1)));
            Check.due("5, less by 5", waiting(t, Check.r(8, 8, -5)).commit(), 2);
            Check.due("5, less by 6, more by 1",
                    waiting(t, Check.r(8, 8, -6), Check.r(8, 8, 1)).commit(), 2);
        }
    }

    private static void multiplicityAbove99() {
        for (int table = 0; table < 3; table++) {
            int t = table;
            Refusal.dueOfCommit("99 and 1", () -> waiting(t, Check.r(9, 9, 99), Check.r(9, 9, 1)));
            Refusal.dueOfCommit("5 and 95", () -> waiting(t, Check.r(8, 8, 95)));
            Refusal.dueOfCommit("5 and 7 times 99", () -> waiting(t, Check.r(8, 8, 99),
                    Check.r(8, 8, 99), Check.r(8, 8, 99), Check.r(8, 8, 99), Check.r(8, 8, 99),
                    Check.r(8, 8, 99), Check.r(8, 8, 99)));
            Check.due("99", waiting(t, Check.r(9, 9, 99)).commit(), 2);
            Check.due("5 and 94", waiting(t, Check.r(8, 8, 94)).commit(), 2);
            Check.due("99 and 1 less 1",
                    waiting(t, Check.r(9, 9, 99), Check.r(9, 9, 1), Check.r(9, 9, -1)).commit(), 2);
        }
    }

    private static void nineRowsInATable() {
        for (int table = 0; table < 3; table++) {
            int t = table;
            int[][] seven = new int[7][];
            for (int n = 0; n < 7; n++) {
                seven[n] = Check.r(n, 0, 1);
            }
            DeltaViews eight = waiting(t, seven);
            Check.due("the eighth row", eight.commit(), 8);
            Check.due("eight rows", eight.rows(t), 8);
            Refusal.dueOfCommit("the ninth row", () -> {
                DeltaViews x = waiting(t, seven);
                x.commit();
                x.change((t + 1) % 3, 60, 60, 1);
                x.change(t, 7, 0, 1);
                return x;
            });
            DeltaViews other = waiting(t, seven);
            other.commit();
            other.change(t, 7, 0, 1);
            other.change(t, 8, 8, -5);
            Check.due("the ninth row, and one goes", other.commit(), 2);
            Check.due("eight rows", other.rows(t), 8);
        }
    }

    /** The row 8, 8 five times in every table, and 50, 50 to come into the table behind. */
    private static DeltaViews waiting(int table, int[]... rows) {
        DeltaViews x = new DeltaViews();
        for (int t = 0; t < 3; t++) {
            x.change(t, 8, 8, 5);
        }
        x.commit();
        x.distinct(table);
        x.group(table, 1, 0, 0);
        x.change((table + 1) % 3, 50, 50, 1);
        for (int[] row : rows) {
            x.change(table, row[0], row[1], row[2]);
        }
        return x;
    }

    private static void seventeenRowsInAJoin() {
        for (int place = 3; place < 12; place++) {
            int p = place;
            Refusal.dueOfCommit("17 rows in a join, view " + p, () -> joined(p, 2));
            DeltaViews sixteen = joined(p, 3);
            Check.due("16 rows in a join, view " + p, sixteen.commit(), 2);
            Check.due("16 rows", sixteen.rows(p), 16);
        }
    }

    /** A join of 4 * 4 rows at a place; a row that waits makes a pair more if its key is 2. */
    private static DeltaViews joined(int place, int key) {
        DeltaViews x = Check.withTable(Check.r(1, 0, 1), Check.r(1, 1, 1), Check.r(1, 2, 1),
                Check.r(1, 3, 1), Check.r(2, 0, 1));
        Check.commitTo(x, 1, Check.r(1, 0, 2), Check.r(1, 1, 2), Check.r(1, 2, 2), Check.r(1, 3, 2));
        fillUpTo(place, x);
        Check.due("its number", x.join(0, 1, 0, 0), place);
        Check.due("16 rows", x.rows(place), 16);
        if (place < 11) {
            x.distinct(2);
        }
        x.change(2, 5, 5, 5);
        x.change(1, key, 7, 1);
        return x;
    }

    private static void seventeenRowsInAUnion() {
        for (int place = 4; place < 12; place++) {
            int p = place;
            Refusal.dueOfCommit("17 rows in a union, view " + p, () -> united(p, 8));
            DeltaViews sixteen = united(p, 7);
            Check.due("16 rows in a union, view " + p, sixteen.commit(), 1);
            Check.due("16 rows", sixteen.rows(p), 16);
        }
    }

    /** A union of 16 rows at a place; a row that waits is among them if its cell is below 8. */
    private static DeltaViews united(int place, int cell) {
        DeltaViews x = new DeltaViews();
        for (int table = 0; table < 2; table++) {
            for (int n = 0; n < 8; n++) {
                x.change(table, table, n, 1);
            }
            x.commit();
        }
        x.union(0, 1);
        fillUpTo(place, x);
        Check.due("its number", x.union(2, 3), place);
        x.change(2, 1, cell, 5);
        return x;
    }

    /** Makes views until the next one has the number place. */
    private static void fillUpTo(int place, DeltaViews x) {
        while (Look.outcome(y -> y.width(place - 1), x).startsWith("java")) {
            x.distinct(2);
        }
    }

    /** The tables and the lower views would all keep their limits. */
    private static void seventeenRowsInViewsOfViews() {
        Refusal.Maker maker = () -> {
            DeltaViews x = Check.withTable(Check.r(1, 0, 1), Check.r(1, 1, 1), Check.r(1, 2, 1),
                    Check.r(1, 3, 1));
            int key = x.project(0, 1, 0);
            int count = x.group(0, 1, 0, 0);
            int wide = x.join(0, key, 0, 0);
            int same = x.select(0, 1, 2, -1);
            x.join(same, 0, 0, 0);
            x.group(wide, 0, 0, 1);
            x.distinct(count);
            x.change(1, 3, 3, 3);
            x.change(0, 1, 4, 1);
            return x;
        };
        Refusal.dueOfCommit("25 rows", maker);
        DeltaViews x = maker.made();
        x.change(0, 1, 0, -1);
        Check.due("16 rows, one came and one went", x.commit(), 3);
        Check.due("16 rows", x.rows(7), 16);
    }

    private static void severalReasons() {
        Refusal.dueOfCommit("below 0 in one table, above 99 in another", () -> {
            DeltaViews x = waiting(0, Check.r(8, 8, -6));
            x.change(1, 8, 8, 95);
            return x;
        });
        Refusal.dueOfCommit("below 0, and 17 rows in a view", () -> {
            DeltaViews x = united(5, 8);
            x.change(0, 900, 900, -1);
            return x;
        });
        Refusal.dueOfCommit("below 0 as often as above 99", () -> {
            DeltaViews x = waiting(0, Check.r(8, 8, -6));
            x.change(0, 7, 7, 99);
            x.change(0, 7, 7, 1);
            return x;
        });
    }

    private static void theBatchIsEmptyThough() {
        DeltaViews x = waiting(0, Check.r(8, 8, 95));
        Check.state("refused", () -> x.commit());
        Check.due("the first change again", x.change(0, 8, 8, 94), 1);
        Check.due("that one alone is made", x.commit(), 1);
        Check.due("99", x.many(0, 8, 8, 0, 0), 99);
        Check.due("nothing of the refused batch", x.many(1, 50, 50, 0, 0), 0);

        DeltaViews full = new DeltaViews();
        for (int n = 0; n < 8; n++) {
            full.change(0, n, n, -1);
        }
        Check.state("a full batch refused", () -> full.commit());
        for (int n = 1; n <= 8; n++) {
            Check.due("room for eight again", full.change(0, n, n, 1), n);
        }
        Check.state("and not for nine", () -> full.change(0, 9, 9, 1));
    }
}
