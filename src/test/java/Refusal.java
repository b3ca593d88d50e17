/**
 * "A call that throws changes nothing, but where it is said": makes a call that is due to throw,
 * and looks whether all is as in a twin, an object made by the same calls but that one.
 */
final class Refusal {
    interface Maker {
        DeltaViews made();
    }

    interface Use {
        long answer(DeltaViews x);
    }

    private Refusal() {
    }

    static void due(String what, Class<?> exception, Maker maker, Use use) {
        looksTheSame(what, exception, maker, use);
        hasTheSameBatch(what, exception, maker, use);
        goesOnInTheSameWay(what, exception, maker, use);
    }

    /** "nothing is changed but the batch, which is empty": the twin's batch is cancelled. */
    static void dueOfCommit(String what, Maker maker) {
        Maker cancelled = () -> {
            DeltaViews twin = maker.made();
            twin.cancel();
            return twin;
        };
        DeltaViews x = refused(what, IllegalStateException.class, maker, y -> y.commit());
        Check.same(what + ", seen", Look.at(x), Look.at(cancelled.made()));
        Check.due(what + ", the batch", x.cancel(), 0);
        DeltaViews later = refused(what, IllegalStateException.class, maker, y -> y.commit());
        goOn(what, later, cancelled.made());
    }

    private static void looksTheSame(String what, Class<?> exception, Maker maker, Use use) {
        DeltaViews x = refused(what, exception, maker, use);
        Check.same(what + ", seen", Look.at(x), Look.at(maker.made()));
    }

    private static void hasTheSameBatch(String what, Class<?> exception, Maker maker, Use use) {
        DeltaViews x = refused(what, exception, maker, use);
        Check.due(what + ", the batch", x.cancel(), maker.made().cancel());
    }

    private static void goesOnInTheSameWay(String what, Class<?> exception, Maker maker, Use use) {
        goOn(what, refused(what, exception, maker, use), maker.made());
    }

    /** The next view takes the place that a refused one may have touched. */
    private static void goOn(String what, DeltaViews x, DeltaViews twin) {
        Check.same(what + ", a view then", Look.outcome(y -> y.distinct(0), x),
                Look.outcome(y -> y.distinct(0), twin));
        Check.same(what + ", a commit then", Look.outcome(y -> y.commit(), x),
                Look.outcome(y -> y.commit(), twin));
        Check.same(what + ", seen later", Look.at(x), Look.at(twin));
    }

    private static DeltaViews refused(String what, Class<?> exception, Maker maker, Use use) {
        DeltaViews x = maker.made();
        Check.fails(what, exception, () -> use.answer(x));
        return x;
    }
}
