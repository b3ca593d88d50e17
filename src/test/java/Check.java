/** Compares answers with those that are due, prints every wrong one, and counts. */
final class Check {
    interface Call {
        long answer();
    }

    private static int looked = 0;
    private static int wrong = 0;

    private Check() {
    }

    static void due(String what, long got, long want) {
        looked++;
        if (got != want) {
            complain(what + " answered " + got + ", due is " + want);
        }
    }

    static void holds(String what, boolean so) {
        looked++;
        if (!so) {
            complain(what + " does not hold");
        }
    }

    static void index(String what, Call call) {
        fails(what, IndexOutOfBoundsException.class, call);
    }

    static void argument(String what, Call call) {
        fails(what, IllegalArgumentException.class, call);
    }

    static void state(String what, Call call) {
        fails(what, IllegalStateException.class, call);
    }

    static void noElement(String what, Call call) {
        fails(what, java.util.NoSuchElementException.class, call);
    }

    static void same(String what, String got, String want) {
        looked++;
        if (!got.equals(want)) {
            complain(what + " is " + got + ", due is " + want);
        }
    }

    static void fails(String what, Class<?> due, Call call) {
        looked++;
        String got;
        try {
            got = "answered " + call.answer();
        } catch (RuntimeException thrown) {
            if (thrown.getClass() == due) {
                return;
            }
            got = "threw " + thrown.getClass().getName();
        }
        complain(what + " " + got + ", due is " + due.getName());
    }

    /** A view's rows as {cells .., multiplicity}, in order; looks at width, rows, cell, times, many. */
    static void bag(String what, DeltaViews x, int view, int width, long[]... want) {
        due(what + ": width", x.width(view), width);
        due(what + ": rows", x.rows(view), want.length);
        for (int row = 0; row < Math.min(want.length, x.rows(view)); row++) {
            int[] cells = new int[4];
            for (int column = 0; column < width; column++) {
                cells[column] = (int) want[row][column];
                due(what + ": cell " + row + ", " + column, x.cell(view, row, column), cells[column]);
            }
            due(what + ": times " + row, x.times(view, row), want[row][width]);
            due(what + ": many " + row, x.many(view, cells[0], cells[1], cells[2], cells[3]),
                    want[row][width]);
        }
    }

    static long[] row(long... numbers) {
        return numbers;
    }

    /** An object whose table 0 has these rows, each {a, b, multiplicity}. */
    static DeltaViews withTable(int[]... rows) {
        DeltaViews x = new DeltaViews();
        commitTo(x, 0, rows);
        return x;
    }

    static void commitTo(DeltaViews x, int table, int[]... rows) {
        for (int[] row : rows) {
            x.change(table, row[0], row[1], row[2]);
        }
        x.commit();
    }

    static int[] r(int a, int b, int by) {
        return new int[] {a, b, by};
    }

    /** Makes views until there are 12. */
    static void fillViews(DeltaViews x) {
        for (int made = x.distinct(0); made < 11; made = x.distinct(0)) {
            due("a view is made", x.width(made), 2);
        }
    }

    static void end() {
        System.out.println(looked + " answers looked at, " + wrong + " wrong");
        if (wrong > 0) {
            System.exit(1);
        }
    }

    private static void complain(String text) {
        wrong++;
        if (wrong <= 50) {
            System.out.println(text);
        }
    }
}
