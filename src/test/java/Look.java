/** Everything that can be seen of an object by reading it, as a text that can be compared. */
final class Look {
    private Look() {
    }

    static String at(DeltaViews x) {
        StringBuilder text = new StringBuilder();
        int view = 0;
        while (view < 12 && isThere(x, view)) {
            text.append("\n  view ").append(view).append(" of width ").append(x.width(view));
            text.append(", moved ").append(x.moved(view)).append(':');
            appendRows(text, x, view);
            view++;
        }
        return text.append("\n  ").append(view).append(" views").toString();
    }

    /** The answer of a call, or the name of what it throws. */
    static String outcome(Refusal.Use use, DeltaViews x) {
        try {
            return Long.toString(use.answer(x));
        } catch (RuntimeException thrown) {
            return thrown.getClass().getName();
        }
    }

    private static boolean isThere(DeltaViews x, int view) {
        return !outcome(y -> y.rows(view), x).startsWith("java");
    }

    private static void appendRows(StringBuilder text, DeltaViews x, int view) {
        int rows = x.rows(view);
        int width = x.width(view);
        for (int row = 0; row < rows; row++) {
            for (int column = 0; column < width; column++) {
                text.append(' ').append(x.cell(view, row, column));
            }
            text.append(" times ").append(x.times(view, row)).append(';');
        }
    }
}
