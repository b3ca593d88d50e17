/** The sentences of "Terms" that name a boundary, each with a test of its own. */
public final class TermsTest {
    private static final int LEAST = Integer.MIN_VALUE;
    private static final int GREATEST = Integer.MAX_VALUE;

    public static void main(String[] args) {
        widths();
        tables();
        atMostTwelveViews();
        atMostEightRowsOfATable();
        multiplicitiesOfTables();
        atMostSixteenRowsOfAJoin();
        atMostSixteenRowsOfAUnion();
        sixteenRowsOfEveryOtherOperation();
        orderOfFarNumbers();
        selectByFarNumbers();
        operationsOfEmptyBags();
        batchOfEight();
        Check.end();
    }

    /** "A VIEW has a WIDTH 1 .. 4". */
    private static void widths() {
        DeltaViews x = Check.withTable(Check.r(1, 2, 3));
        Check.argument("project to none", () -> x.project(0, 0, 0));
        int one = x.project(0, 1, 0x1);
        int three = x.project(0, 3, 0x010);
        int four = x.project(0, 4, 0x0101);
        Check.argument("project to five", () -> x.project(0, 5, 0));
        Check.bag("the least", x, one, 1, Check.row(2, 3));
        Check.index("its column 1", () -> x.cell(one, 0, 1));
        Check.bag("three", x, three, 3, Check.row(1, 2, 1, 3));
        Check.index("its column 3", () -> x.cell(three, 0, 3));
        Check.bag("the greatest", x, four, 4, Check.row(2, 1, 2, 1, 3));
        Check.index("its column 4", () -> x.cell(four, 0, 4));
        Check.due("1 and 1", x.width(x.join(one, one, 0, 0)), 2);
        Check.due("1 and 3", x.width(x.join(one, three, 0, 1)), 4);
        Check.due("3 and 1", x.width(x.join(three, one, 1, 0)), 4);
        Check.due("2 and 2", x.width(x.join(0, 0, 0, 0)), 4);
        Check.argument("1 and 4", () -> x.join(one, four, 0, 0));
        Check.argument("4 and 1", () -> x.join(four, one, 0, 0));
        Check.argument("2 and 3", () -> x.join(0, three, 0, 0));
        Check.argument("3 and 2", () -> x.join(three, 0, 0, 0));
        Check.argument("4 and 4", () -> x.join(four, four, 0, 0));
    }

    /** "Views are numbered; 0, 1, 2 are the TABLES, of width 2, at first empty." */
    private static void tables() {
        DeltaViews x = new DeltaViews();
        for (int table = 0; table < 3; table++) {
            int t = table;
            Check.due("width", x.width(t), 2);
            Check.due("rows", x.rows(t), 0);
            Check.noElement("row 0", () -> x.times(t, 0));
            Check.noElement("row 0", () -> x.cell(t, 0, 1));
            Check.index("column 2", () -> x.cell(t, 0, 2));
        }
        Check.index("before the first", () -> x.width(-1));
        Check.index("behind the last", () -> x.width(3));
        Check.due("the next number", x.distinct(0), 3);
        Check.index("no table 3 to change", () -> x.change(3, 0, 0, 1));
    }

    /** "There are at most 12 views." */
    private static void atMostTwelveViews() {
        DeltaViews x = Check.withTable(Check.r(1, 2, 3));
        for (int number = 3; number < 12; number++) {
            Check.due("its number", x.distinct(0), number);
        }
        Check.due("the twelfth is there", x.rows(11), 1);
        Check.index("no thirteenth", () -> x.rows(12));
        Check.state("select", () -> x.select(0, 0, 0, 0));
        Check.state("project", () -> x.project(0, 1, 0));
        Check.state("join", () -> x.join(0, 0, 0, 0));
        Check.state("union", () -> x.union(0, 0));
        Check.state("sum", () -> x.group(0, 0, 0, 0));
        Check.state("count", () -> x.group(0, 1, 0, 0));
        Check.state("most", () -> x.group(0, 2, 0, 0));
        Check.state("distinct", () -> x.distinct(0));
        Refusal.Use[] makers = {y -> y.select(0, 0, 0, 0), y -> y.project(0, 1, 0),
            y -> y.join(0, 0, 0, 0), y -> y.union(0, 0), y -> y.group(0, 0, 0, 0),
            y -> y.distinct(10)};
        for (Refusal.Use maker : makers) {
            Check.due("one less", x.drop(), 11);
            Check.due("room for one", maker.answer(x), 11);
            Check.state("and no more", () -> maker.answer(x));
        }
        x.change(0, 5, 5, 5);
        Check.due("a commit with twelve", x.commit(), 1);
        Check.due("the twelfth follows", x.moved(11), 1);
    }

    /** "A table has at most 8 different rows". */
    private static void atMostEightRowsOfATable() {
        for (int table = 0; table < 3; table++) {
            DeltaViews x = new DeltaViews();
            int t = table;
            for (int n = 0; n < 8; n++) {
                x.change(t, -n, n, 99);
            }
            Check.due("eight at once", x.commit(), 8);
            Check.due("eight", x.rows(t), 8);
            Check.due("the last of them", x.cell(t, 7, 0), 0);
            Check.noElement("no ninth", () -> x.cell(t, 8, 0));
            x.change(t, -3, 3, -1);
            Check.due("no other row", x.commit(), 1);
            x.change(t, -3, 4, 1);
            Check.state("a ninth", () -> x.commit());
            x.change(t, -3, 4, 0);
            Check.due("a ninth by 0 is none", x.commit(), 0);
            x.change(t, -3, 4, 1);
            x.change(t, -3, 3, -98);
            Check.due("another in its stead", x.commit(), 2);
            Check.due("eight still", x.rows(t), 8);
        }
    }

    /** "with multiplicities 1 .. 99". */
    private static void multiplicitiesOfTables() {
        for (int table = 0; table < 3; table++) {
            DeltaViews x = new DeltaViews();
            int t = table;
            x.change(t, 4, 4, 1);
            Check.due("1", x.commit(), 1);
            Check.due("the least", x.times(t, 0), 1);
            x.change(t, 4, 4, 98);
            Check.due("99", x.commit(), 1);
            Check.due("the greatest", x.times(t, 0), 99);
            x.change(t, 4, 4, 1);
            Check.state("100", () -> x.commit());
            Check.due("99 still", x.times(t, 0), 99);
            x.change(t, 4, 4, -98);
            Check.due("1", x.commit(), 1);
            x.change(t, 4, 4, -2);
            Check.state("-1", () -> x.commit());
            Check.due("1 still", x.times(t, 0), 1);
            x.change(t, 4, 4, -1);
            Check.due("0", x.commit(), 1);
            Check.due("0 is no row", x.rows(t), 0);
            Check.due("0", x.many(t, 4, 4, 0, 0), 0);
        }
    }

    /** "another view has at most 16 different rows": 4 * 4 pairs, and one. */
    private static void atMostSixteenRowsOfAJoin() {
        DeltaViews x = Check.withTable(Check.r(1, 0, 1), Check.r(1, 1, 1), Check.r(1, 2, 1),
                Check.r(1, 3, 1), Check.r(2, 4, 1));
        Check.commitTo(x, 1, Check.r(1, 0, 1), Check.r(1, 1, 1), Check.r(1, 2, 1),
                Check.r(1, 3, 1));
        int join = x.join(0, 1, 0, 0);
        Check.due("sixteen", x.rows(join), 16);
        Check.due("the last of them", x.cell(join, 15, 3), 3);
        Check.noElement("no seventeenth", () -> x.times(join, 16));
        x.change(1, 2, 5, 1);
        Check.state("seventeen by a commit", () -> x.commit());
        x.drop();
        x.change(1, 2, 5, 1);
        Check.due("without the view", x.commit(), 1);
        Check.state("seventeen by making it", () -> x.join(0, 1, 0, 0));
        x.change(1, 2, 5, -1);
        x.commit();
        Check.due("sixteen again", x.rows(x.join(0, 1, 0, 0)), 16);
    }

    private static void atMostSixteenRowsOfAUnion() {
        DeltaViews x = sixteen();
        x.change(2, 0, 0, 1);
        x.commit();
        int three = x.union(3, 2);
        Check.due("one that is there already", x.rows(three), 16);
        Check.due("twice", x.many(three, 0, 0, 0, 0), 2);
        x.change(2, 0, 1, 1);
        Check.state("seventeen by a commit", () -> x.commit());
        x.drop();
        x.change(2, 0, 1, 1);
        Check.due("without the view", x.commit(), 1);
        Check.state("seventeen by making it", () -> x.union(3, 2));
        Check.state("seventeen the other way", () -> x.union(2, 3));
        Check.due("sixteen with itself", x.rows(x.union(3, 3)), 16);
    }

    /** View 3 has the rows 0, 0 and 10, 1 and so on up to 150, 15. */
    private static DeltaViews sixteen() {
        DeltaViews x = new DeltaViews();
        for (int n = 0; n < 16; n++) {
            x.change(n / 8, 10 * n, n, 1);
            if (n % 8 == 7) {
                x.commit();
            }
        }
        Check.due("sixteen", x.rows(x.union(0, 1)), 16);
        return x;
    }

    private static void sixteenRowsOfEveryOtherOperation() {
        DeltaViews x = sixteen();
        Check.due("select", x.rows(x.select(3, 0, 2, -1)), 16);
        Check.due("project", x.rows(x.project(3, 4, 0x1001)), 16);
        Check.due("sum", x.rows(x.group(3, 0, 0, 1)), 16);
        Check.due("count", x.rows(x.group(3, 1, 1, 0)), 16);
        Check.due("most", x.rows(x.group(3, 2, 0, 1)), 16);
        Check.due("distinct", x.rows(x.distinct(3)), 16);
        Check.due("join", x.rows(x.join(3, 3, 0, 0)), 16);
        for (int view = 3; view <= 10; view++) {
            int v = view;
            Check.due("the last row", x.times(v, 15), 1);
            Check.noElement("none behind it", () -> x.times(v, 16));
        }
        x.change(1, 150, 15, -1);
        x.change(1, 160, 15, 1);
        Check.due("one goes and one comes", x.commit(), 2);
        Check.due("sixteen still", x.rows(10), 16);
        Check.due("the new one", x.many(10, 160, 15, 160, 15), 1);
        Check.due("the old one", x.many(10, 150, 15, 150, 15), 0);
    }

    /**
     * View 10 has the sums 1, GREATEST and 2, LEAST and 3, 0 and 4, -1: a row of table 0 comes to
     * the multiplicity 2 to the 31st, and what table 2 has is added to it.
     */
    private static DeltaViews withFarNumbers() {
        DeltaViews x = Check.withTable(Check.r(1, 1, 64), Check.r(2, 1, 64));
        Check.commitTo(x, 2, Check.r(1, -1, 1), Check.r(3, 0, 1), Check.r(4, -1, 1));
        x.join(0, 0, 0, 0);
        x.project(3, 1, 0);
        x.join(4, 4, 0, 0);
        x.join(5, 0, 0, 0);
        x.project(6, 2, 0x30);
        x.union(7, 7);
        x.union(8, 2);
        Check.due("the sums", x.group(9, 0, 0, 1), 10);
        return x;
    }

    /** "ORDERED by their cells, the first cell that differs decides, the less number first". */
    private static void orderOfFarNumbers() {
        DeltaViews x = withFarNumbers();
        Check.bag("the first cell decides", x, 10, 2, Check.row(1, GREATEST, 1),
                Check.row(2, LEAST, 1), Check.row(3, 0, 1), Check.row(4, -1, 1));
        Check.bag("the less first", x, x.project(10, 2, 0x01), 2, Check.row(LEAST, 2, 1),
                Check.row(-1, 4, 1), Check.row(0, 3, 1), Check.row(GREATEST, 1, 1));
        x.drop();
        Check.bag("the last cell that differs", x, x.union(10, 2), 2, Check.row(1, -1, 1),
                Check.row(1, GREATEST, 1), Check.row(2, LEAST, 1), Check.row(3, 0, 2),
                Check.row(4, -1, 2));
        x.drop();
        Check.bag("in the third cell", x, x.project(10, 3, 0x100), 3,
                Check.row(1, 1, GREATEST, 1), Check.row(2, 2, LEAST, 1), Check.row(3, 3, 0, 1),
                Check.row(4, 4, -1, 1));
    }

    /** "0 less than, 1 equal to, 2 greater than": the number itself passes only the second. */
    private static void selectByFarNumbers() {
        DeltaViews x = withFarNumbers();
        selects(x, 0, LEAST);
        selects(x, 0, LEAST + 1, 2);
        selects(x, 0, -1, 2);
        selects(x, 0, 0, 2, 4);
        selects(x, 0, GREATEST, 2, 3, 4);
        selects(x, 1, LEAST, 2);
        selects(x, 1, LEAST + 1);
        selects(x, 1, 0, 3);
        selects(x, 1, GREATEST, 1);
        selects(x, 2, GREATEST);
        selects(x, 2, GREATEST - 1, 1);
        selects(x, 2, 0, 1);
        selects(x, 2, -1, 1, 3);
        selects(x, 2, LEAST, 1, 3, 4);
    }

    private static void selects(DeltaViews x, int test, int number, int... keys) {
        int made = x.select(10, 1, test, number);
        String what = "test " + test + " by " + number;
        Check.due(what, x.rows(made), keys.length);
        for (int row = 0; row < keys.length; row++) {
            Check.due(what + ", row " + row, x.cell(made, row, 0), keys[row]);
        }
        x.drop();
    }

    private static void operationsOfEmptyBags() {
        DeltaViews x = Check.withTable(Check.r(1, 2, 3));
        int[] empty = {x.select(1, 0, 2, LEAST), x.project(1, 2, 0), x.join(0, 1, 0, 0),
            x.join(1, 0, 0, 0), x.union(1, 2), x.group(1, 0, 0, 1), x.group(1, 1, 0, 1),
            x.group(1, 2, 0, 1), x.distinct(1)};
        for (int view : empty) {
            Check.due("rows of " + view, x.rows(view), 0);
            Check.noElement("row 0 of " + view, () -> x.cell(view, 0, 0));
            Check.noElement("row 0 of " + view, () -> x.times(view, 0));
            Check.due("many in " + view, x.many(view, 0, 0, 0, 0), 0);
            Check.due("moved of " + view, x.moved(view), 0);
        }
        x.change(1, 1, 5, 2);
        Check.due("a first row", x.commit(), 1);
        for (int view : empty) {
            Check.due("rows of " + view, x.rows(view), 1);
            Check.due("moved of " + view, x.moved(view), 1);
        }
        x.change(1, 1, 5, -2);
        Check.due("and none again", x.commit(), 1);
        for (int view : empty) {
            Check.due("rows of " + view, x.rows(view), 0);
            Check.due("moved of " + view, x.moved(view), 1);
        }
    }

    /** "A BATCH is a row of at most 8 CHANGES, at first empty". */
    private static void batchOfEight() {
        DeltaViews x = new DeltaViews();
        Check.due("at first empty", x.cancel(), 0);
        for (int n = 1; n <= 8; n++) {
            Check.due("changes of the same row count each", x.change(0, 1, 1, 0), n);
        }
        Check.state("a ninth", () -> x.change(1, 2, 2, 2));
        Check.due("eight", x.cancel(), 8);
        Check.due("room again", x.change(1, 2, 2, 2), 1);
        x.commit();
        Check.due("empty by a commit", x.cancel(), 0);
    }
}
