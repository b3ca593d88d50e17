/**
 * "every row has a MULTIPLICITY (a long that wraps), and is in the bag when that is not 0", and
 * what SUM and COUNT do with ints that wrap.
 */
public final class WrapTest {
    private static final long BIG = 1L << 60;

    public static void main(String[] args) {
        productsAndSumsOfUnions();
        onlyAnotherMultiplicityMoves();
        sumsOfProjects();
        rowsThatAreNotThere();
        pairsThatAreNotThereMakeRoom();
        multiplicitiesBelowZero();
        sumsAndCountsThatWrap();
        multiplicitiesAsIntsThatWrap();
        mostOfFarNumbers();
        Check.end();
    }

    /**
     * View 9, of width 4, has each row 1, b of table 1 behind 1, 1, its multiplicity times 2 to
     * the 60th, which is made of the 64 of table 0.
     */
    private static DeltaViews withBigProducts(int[]... rowsOfTable1) {
        DeltaViews x = Check.withTable(Check.r(1, 1, 64));
        Check.commitTo(x, 1, rowsOfTable1);
        x.join(0, 0, 0, 0);
        x.project(3, 1, 0);
        x.join(4, 4, 0, 0);
        x.join(5, 5, 0, 0);
        x.project(6, 1, 0);
        x.join(7, 4, 0, 0);
        Check.due("2 to the 60th", x.many(8, 1, 1, 0, 0), BIG);
        Check.due("its number", x.join(8, 1, 0, 0), 9);
        return x;
    }

    private static void productsAndSumsOfUnions() {
        for (int few : new int[] {1, 4, 7, 8, 9, 12, 15, 16, 17, 24, 32, 98, 99}) {
            DeltaViews x = withBigProducts(Check.r(1, 3, few));
            int twice = x.union(9, 9);
            int fourTimes = x.union(twice, twice);
            long product = BIG * few;
            row("product by " + few, x, 9, product);
            row("sum by " + few, x, twice, product + product);
            row("sum of sums by " + few, x, fourTimes, 4 * product);
        }
        DeltaViews x = withBigProducts(Check.r(1, 3, 4));
        Check.due("greatest power", x.times(9, 0), 1L << 62);
        Check.due("a sum wraps to the least long", x.times(x.union(9, 9), 0), Long.MIN_VALUE);
        Check.due("a sum wraps to 0", x.rows(x.union(10, 10)), 0);
    }

    private static void row(String what, DeltaViews x, int view, long times) {
        Check.due(what + ", many", x.many(view, 1, 1, 1, 3), times);
        Check.due(what + ", rows", x.rows(view), times == 0 ? 0 : 1);
        if (times == 0) {
            Check.noElement(what + ", times", () -> x.times(view, 0));
            Check.noElement(what + ", cell", () -> x.cell(view, 0, 3));
        } else {
            Check.due(what + ", times", x.times(view, 0), times);
            Check.due(what + ", cell", x.cell(view, 0, 3), 3);
        }
    }

    /** 1 and 17 times 2 to the 60th are the same long, 16 times and 32 times are 0. */
    private static void onlyAnotherMultiplicityMoves() {
        DeltaViews x = withBigProducts(Check.r(1, 3, 1));
        x.distinct(9);
        moves("17 times, as 1", x, 16, 0, 0);
        moves("16 times, not there", x, -1, 1, 1);
        moves("32 times, not there either", x, 16, 0, 0);
        moves("33 times", x, 1, 1, 1);
        moves("34 times", x, 1, 1, 0);
        moves("none", x, -34, 1, 1);
    }

    private static void moves(String what, DeltaViews x, int by, int product, int distinct) {
        x.change(1, 1, 3, by);
        Check.due(what + ", rows of tables", x.commit(), 1);
        Check.due(what + ", moved of the product", x.moved(9), product);
        Check.due(what + ", moved of distinct", x.moved(10), distinct);
    }

    private static void sumsOfProjects() {
        DeltaViews x = withBigProducts(Check.r(1, 3, 7), Check.r(1, 4, 8));
        int key = x.project(9, 1, 0);
        Check.bag("15 times", x, key, 1, Check.row(1, -BIG));
        x.change(1, 1, 3, 1);
        x.commit();
        Check.due("two rows below", x.rows(9), 2);
        Check.bag("16 times is not there", x, key, 1);
        Check.due("moved", x.moved(key), 1);
        x.change(1, 1, 4, 1);
        x.commit();
        Check.bag("17 times", x, key, 1, Check.row(1, BIG));
    }

    /** Of three pairs the first and the last wrap to 0: only the second is a row to any view. */
    private static void rowsThatAreNotThere() {
        DeltaViews x = withBigProducts(Check.r(1, 2, 16), Check.r(1, 3, 3), Check.r(1, 4, 32));
        Check.bag("product", x, 9, 4, Check.row(1, 1, 1, 3, 3 * BIG));
        Check.noElement("no second", () -> x.cell(9, 1, 0));
        Check.due("many of the first", x.many(9, 1, 1, 1, 2), 0);
        Check.due("many of the last", x.many(9, 1, 1, 1, 4), 0);
        Check.bag("select", x, x.select(9, 0, 1, 1), 4, Check.row(1, 1, 1, 3, 3 * BIG));
        x.drop();
        Check.bag("project", x, x.project(9, 1, 3), 1, Check.row(3, 3 * BIG));
        x.drop();
        Check.bag("union", x, x.union(9, 9), 4, Check.row(1, 1, 1, 3, 6 * BIG));
        x.drop();
        Check.bag("sum", x, x.group(9, 0, 3, 3), 2, Check.row(3, 0, 1));
        x.drop();
        Check.bag("count", x, x.group(9, 1, 3, 3), 2, Check.row(3, 0, 1));
        x.drop();
        Check.bag("most", x, x.group(9, 2, 0, 3), 2, Check.row(1, 3, 1));
        x.drop();
        Check.bag("distinct", x, x.distinct(9), 4, Check.row(1, 1, 1, 3, 1));
        x.drop();
        x.project(9, 1, 3);
        Check.bag("join", x, x.join(10, 1, 0, 1), 3, Check.row(3, 1, 3, 9 * BIG));
    }

    /** Of 20 pairs four wrap to 0, so that the join has the 16 rows that it may have. */
    private static void pairsThatAreNotThereMakeRoom() {
        DeltaViews x = Check.withTable(Check.r(5, 0, 1), Check.r(5, 1, 1), Check.r(5, 2, 1),
                Check.r(5, 3, 1), Check.r(5, 4, 4));
        Check.commitTo(x, 2, Check.r(5, 0, 64), Check.r(5, 1, 64), Check.r(5, 2, 64),
                Check.r(5, 3, 64));
        int wide = 2;
        for (int square = 0; square < 3; square++) {
            wide = x.project(x.join(wide, wide, 0, 0), 2, 0x10);
        }
        Check.due("2 to the 62nd", x.times(wide, 0), 1L << 62);
        int join = x.join(0, wide, 0, 0);
        Check.due("sixteen rows", x.rows(join), 16);
        x.change(0, 5, 4, 1);
        Check.state("four more by a commit", () -> x.commit());
        Check.due("sixteen still", x.rows(join), 16);
        x.change(0, 5, 4, 4);
        Check.due("8 times is not there either", x.commit(), 1);
        Check.due("moved", x.moved(join), 0);
        x.change(0, 5, 4, 1);
        x.change(0, 5, 0, 3);
        Check.due("four come and four go", x.commit(), 2);
        Check.due("sixteen", x.rows(join), 16);
        Check.due("moved", x.moved(join), 8);
        x.drop();
        x.change(0, 5, 0, 1);
        x.commit();
        int four = wide;
        Check.state("four more by making it", () -> x.join(0, four, 0, 0));
    }

    /** View 8 has the row 7, 7 with the multiplicity 99 to the 10th, which wraps below 0. */
    private static void multiplicitiesBelowZero() {
        long power = 1;
        for (int n = 0; n < 10; n++) {
            power *= 99;
        }
        Check.holds("below 0", power < 0);
        DeltaViews x = Check.withTable(Check.r(7, 1, 99));
        x.join(0, 0, 0, 0);
        x.project(3, 1, 0);
        x.join(4, 4, 0, 0);
        x.join(5, 5, 0, 0);
        x.project(6, 1, 0);
        x.join(7, 4, 0, 0);
        Check.bag("join", x, 8, 2, Check.row(7, 7, power));
        Check.bag("select", x, x.select(8, 1, 1, 7), 2, Check.row(7, 7, power));
        x.drop();
        Check.bag("project", x, x.project(8, 1, 1), 1, Check.row(7, power));
        x.drop();
        Check.bag("join with itself", x, x.join(8, 8, 0, 0), 4, Check.row(7, 7, 7, 7, power * power));
        x.drop();
        Check.bag("join with a table", x, x.join(8, 0, 0, 0), 4, Check.row(7, 7, 7, 1, power * 99));
        x.drop();
        Check.bag("union", x, x.union(8, 8), 2, Check.row(7, 7, 2 * power));
        x.drop();
        Check.bag("sum", x, x.group(8, 0, 0, 1), 2, Check.row(7, 7 * (int) power, 1));
        x.drop();
        Check.bag("count", x, x.group(8, 1, 0, 1), 2, Check.row(7, (int) power, 1));
        x.drop();
        Check.bag("most", x, x.group(8, 2, 0, 1), 2, Check.row(7, 7, 1));
        x.drop();
        Check.bag("distinct", x, x.distinct(8), 2, Check.row(7, 7, 1));
    }

    /**
     * View 6, of width 4, has each row of table 1 behind 1, 1 and its multiplicity times 2 to the
     * 24th; so 64 of them are 2 to the 30th.
     */
    private static DeltaViews withMiddleProducts(int[]... rowsOfTable1) {
        DeltaViews x = Check.withTable(Check.r(1, 1, 64));
        Check.commitTo(x, 1, rowsOfTable1);
        x.join(0, 0, 0, 0);
        x.project(3, 1, 0);
        x.join(4, 4, 0, 0);
        Check.due("its number", x.join(5, 1, 0, 0), 6);
        return x;
    }

    /** "the sum, as an int that wraps", "the sum of the multiplicities (as ints that wrap)". */
    private static void sumsAndCountsThatWrap() {
        DeltaViews x = withMiddleProducts(Check.r(1, 1, 64), Check.r(1, 2, 63));
        int narrow = x.project(6, 2, 0x30);
        int more = x.union(narrow, 2);
        int count = x.group(more, 1, 0, 0);
        int sum = x.group(more, 0, 0, 0);
        x.change(2, 1, 5, 99);
        x.commit();
        int belowTheEdge = 127 * (1 << 24) + 99;
        Check.bag("count below the edge", x, count, 2, Check.row(1, belowTheEdge, 1));
        Check.bag("sum below the edge", x, sum, 2, Check.row(1, belowTheEdge, 1));
        x.change(1, 1, 2, 1);
        x.change(2, 1, 5, -99);
        x.commit();
        Check.bag("count of 2 to the 31st", x, count, 2, Check.row(1, Integer.MIN_VALUE, 1));
        Check.bag("sum of 2 to the 31st", x, sum, 2, Check.row(1, Integer.MIN_VALUE, 1));
        Check.due("two rows", x.moved(count), 2);
        x.change(2, 1, 5, 1);
        x.commit();
        Check.bag("count, 1 more", x, count, 2, Check.row(1, Integer.MIN_VALUE + 1, 1));
        int other = x.group(more, 0, 0, 1);
        Check.bag("sum of 64 and 2 * 64 and 5", x, other, 2, Check.row(1, 3 * (1 << 30) + 5, 1));
        x.change(2, 1, -6, 1);
        x.commit();
        Check.bag("the sum less 6", x, other, 2, Check.row(1, 3 * (1 << 30) - 1, 1));
    }

    /** 2 to the 32nd as an int is 0: the row is there, and gives its group a sum of 0. */
    private static void multiplicitiesAsIntsThatWrap() {
        DeltaViews x = withMiddleProducts(Check.r(1, 9, 64));
        int twice = x.union(6, 6);
        int fourTimes = x.union(twice, twice);
        Check.due("2 to the 32nd", x.times(fourTimes, 0), 1L << 32);
        Check.bag("count", x, x.group(fourTimes, 1, 0, 3), 2, Check.row(1, 0, 1));
        Check.bag("sum", x, x.group(fourTimes, 0, 0, 3), 2, Check.row(1, 0, 1));
        Check.bag("most", x, x.group(fourTimes, 2, 0, 3), 2, Check.row(1, 9, 1));
        x.drop();
        x.drop();
        x.drop();
        Check.bag("sum of 9 times 2 to the 31st", x, x.group(twice, 0, 0, 3), 2,
                Check.row(1, Integer.MIN_VALUE, 1));
        Check.bag("sum of 9 times 2 to the 30th", x, x.group(6, 0, 0, 3), 2,
                Check.row(1, 1 << 30, 1));
    }

    /** "the greatest cell": the least int is less than any other. */
    private static void mostOfFarNumbers() {
        DeltaViews x = withMiddleProducts(Check.r(1, 2, 64));
        int sum = x.group(6, 0, 0, 3);
        Check.bag("the least int", x, sum, 2, Check.row(1, Integer.MIN_VALUE, 1));
        int both = x.union(sum, 2);
        int most = x.group(both, 2, 0, 1);
        Check.bag("the least alone", x, most, 2, Check.row(1, Integer.MIN_VALUE, 1));
        x.change(2, 1, 1000, 1);
        x.commit();
        Check.bag("a far greater one", x, most, 2, Check.row(1, 1000, 1));
        x.change(2, 1, 1000, -1);
        x.change(2, 1, -1000, 1);
        x.commit();
        Check.bag("a greater one below 0", x, most, 2, Check.row(1, -1000, 1));
        x.change(2, 1, -1000, -1);
        x.commit();
        Check.bag("the least alone again", x, most, 2, Check.row(1, Integer.MIN_VALUE, 1));
    }
}
