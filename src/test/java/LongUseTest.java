/** "An object is used for at most 512 calls after it has been made": the last is answered right. */
public final class LongUseTest {
    private static final int CALLS = 512;

    public static void main(String[] args) {
        changesAndCommits();
        viewsMadeAndDropped();
        refusedCalls();
        Check.end();
    }

    /** All views that there can be, and commits that go through them, one brings a row, one takes it. */
    private static void changesAndCommits() {
        DeltaViews x = new DeltaViews();
        for (int view = 3; view < 12; view++) {
            Check.due("its number", x.union(view - 1, view - 1), view);
        }
        boolean isThere = false;
        for (int calls = 9; calls < CALLS - 1; calls += 2) {
            Check.due("change", x.change(2, 5, 5, isThere ? -99 : 99), 1);
            Check.due("commit", x.commit(), 1);
            isThere = !isThere;
        }
        Check.due("the last call", x.many(11, 5, 5, 0, 0), isThere ? 99 * 512 : 0);
    }

    private static void viewsMadeAndDropped() {
        DeltaViews x = Check.withTable(Check.r(1, 2, 3));
        for (int calls = 2; calls < CALLS - 2; calls += 2) {
            Check.due("made", x.join(0, 0, 0, 0), 3);
            Check.due("dropped", x.drop(), 3);
        }
        Check.due("made", x.join(0, 0, 0, 0), 3);
        Check.due("the last call", x.many(3, 1, 2, 1, 2), 9);
    }

    private static void refusedCalls() {
        DeltaViews x = Check.withTable(Check.r(1, 2, 3));
        for (int calls = 2; calls < CALLS - 2; calls += 2) {
            x.change(0, 1, 2, 97);
            Check.state("refused", () -> x.commit());
        }
        x.change(0, 1, 2, 96);
        Check.due("the last call", x.commit(), 1);
    }
}
