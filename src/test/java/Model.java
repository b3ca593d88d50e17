import java.util.ArrayList;
import java.util.Comparator;
import java.util.HashMap;
import java.util.List;
import java.util.Map;
import java.util.NoSuchElementException;
import java.util.TreeMap;

/** The document once more, as plainly as it goes: every bag is made from the tables when asked. */
final class Model {
    /** A view's operation and its numbers; a table has none. */
    private record Recipe(char kind, int width, int... numbers) {
    }

    private record Change(int table, List<Integer> row, int by) {
    }

    private static final Comparator<List<Integer>> ORDER = (a, b) -> {
        for (int column = 0; column < a.size(); column++) {
            int order = Integer.compare(a.get(column), b.get(column));
            if (order != 0) {
                return order;
            }
        }
        return 0;
    };

    private final List<Recipe> views = new ArrayList<>();
    private final List<Change> batch = new ArrayList<>();
    private List<TreeMap<List<Integer>, Long>> tables = new ArrayList<>();
    private final List<Integer> moved = new ArrayList<>();

    Model() {
        for (int table = 0; table < 3; table++) {
            tables.add(new TreeMap<>(ORDER));
            views.add(new Recipe('t', 2, table));
            moved.add(0);
        }
    }

    int change(int table, int a, int b, int by) {
        index(table >= 0 && table <= 2);
        argument(a >= -1000 && a <= 1000 && b >= -1000 && b <= 1000 && by >= -99 && by <= 99);
        state(batch.size() < 8);
        batch.add(new Change(table, List.of(a, b), by));
        return batch.size();
    }

    int cancel() {
        int had = batch.size();
        batch.clear();
        return had;
    }

    int commit() {
        List<TreeMap<List<Integer>, Long>> old = tables;
        List<TreeMap<List<Integer>, Long>> next = new ArrayList<>();
        for (TreeMap<List<Integer>, Long> table : old) {
            next.add(new TreeMap<>(table));
        }
        for (Change change : batch) {
            next.get(change.table).merge(change.row, (long) change.by, Long::sum);
        }
        batch.clear();
        for (TreeMap<List<Integer>, Long> table : next) {
            table.values().removeIf(times -> times == 0);
            state(table.size() <= 8);
            state(table.values().stream().allMatch(times -> times >= 1 && times <= 99));
        }
        List<Integer> difference = new ArrayList<>();
        for (int view = 0; view < views.size(); view++) {
            TreeMap<List<Integer>, Long> now = bag(view, next);
            state(now.size() <= 16);
            difference.add(differences(bag(view, old), now));
        }
        tables = next;
        moved.clear();
        moved.addAll(difference);
        return moved.get(0) + moved.get(1) + moved.get(2);
    }

    private static int differences(Map<List<Integer>, Long> a, Map<List<Integer>, Long> b) {
        Map<List<Integer>, Long> difference = new HashMap<>(a);
        b.forEach((row, times) -> difference.merge(row, -times, Long::sum));
        return (int) difference.values().stream().filter(times -> times != 0).count();
    }

    int select(int e, int column, int test, int number) {
        column(e, column);
        argument(test >= 0 && test <= 2);
        return make(new Recipe('s', width(e), e, column, test, number));
    }

    int project(int e, int n, int columns) {
        view(e);
        argument(n >= 1 && n <= 4);
        String digits = String.format("%08x", columns);
        int[] numbers = new int[n + 1];
        numbers[0] = e;
        for (int k = 0; k < n; k++) {
            numbers[k + 1] = Character.digit(digits.charAt(7 - k), 16);
            column(e, numbers[k + 1]);
        }
        return make(new Recipe('p', n, numbers));
    }

    int join(int e, int f, int i, int j) {
        column(e, i);
        column(f, j);
        argument(width(e) + width(f) <= 4);
        return make(new Recipe('j', width(e) + width(f), e, f, i, j));
    }

    int union(int e, int f) {
        view(e);
        view(f);
        argument(width(e) == width(f));
        return make(new Recipe('u', width(e), e, f));
    }

    int group(int e, int kind, int i, int k) {
        column(e, i);
        column(e, k);
        argument(kind >= 0 && kind <= 2);
        return make(new Recipe('g', 2, e, kind, i, k));
    }

    int distinct(int e) {
        view(e);
        return make(new Recipe('d', width(e), e));
    }

    int drop() {
        state(views.size() > 3);
        views.remove(views.size() - 1);
        moved.remove(moved.size() - 1);
        return views.size();
    }

    int width(int e) {
        view(e);
        return views.get(e).width;
    }

    int rows(int e) {
        view(e);
        return bag(e, tables).size();
    }

    int cell(int e, int i, int column) {
        column(e, column);
        List<List<Integer>> rows = new ArrayList<>(bag(e, tables).keySet());
        element(i >= 0 && i < rows.size());
        return rows.get(i).get(column);
    }

    long times(int e, int i) {
        view(e);
        List<Long> times = new ArrayList<>(bag(e, tables).values());
        element(i >= 0 && i < times.size());
        return times.get(i);
    }

    long many(int e, int a, int b, int c, int d) {
        view(e);
        return bag(e, tables).getOrDefault(List.of(a, b, c, d).subList(0, width(e)), 0L);
    }

    int moved(int e) {
        view(e);
        return moved.get(e);
    }

    private int make(Recipe recipe) {
        state(views.size() < 12);
        views.add(recipe);
        if (bag(views.size() - 1, tables).size() > 16) {
            views.remove(views.size() - 1);
            state(false);
        }
        moved.add(0);
        return views.size() - 1;
    }

    private TreeMap<List<Integer>, Long> bag(int view, List<TreeMap<List<Integer>, Long>> from) {
        List<TreeMap<List<Integer>, Long>> bags = new ArrayList<>();
        for (int v = 0; v <= view; v++) {
            bags.add(made(views.get(v), bags, from));
        }
        return bags.get(view);
    }

    private static TreeMap<List<Integer>, Long> made(Recipe recipe,
            List<TreeMap<List<Integer>, Long>> bags, List<TreeMap<List<Integer>, Long>> from) {
        int[] n = recipe.numbers;
        if (recipe.kind == 't') {
            return from.get(n[0]);
        }
        TreeMap<List<Integer>, Long> e = bags.get(n[0]);
        TreeMap<List<Integer>, Long> out = new TreeMap<>(ORDER);
        switch (recipe.kind) {
            case 's' -> e.forEach((row, times) -> {
                if (Integer.compare(row.get(n[1]), n[3]) + 1 == n[2]) {
                    out.put(row, times);
                }
            });
            case 'p' -> e.forEach((row, times) -> {
                List<Integer> cells = new ArrayList<>();
                for (int k = 1; k < n.length; k++) {
                    cells.add(row.get(n[k]));
                }
                out.merge(cells, times, Long::sum);
            });
            case 'j' -> e.forEach((row, times) -> bags.get(n[1]).forEach((other, otherTimes) -> {
                if (row.get(n[2]).intValue() == other.get(n[3]).intValue()) {
                    List<Integer> cells = new ArrayList<>(row);
                    cells.addAll(other);
                    out.merge(cells, times * otherTimes, Long::sum);
                }
            }));
            case 'u' -> {
                out.putAll(e);
                bags.get(n[1]).forEach((row, times) -> out.merge(row, times, Long::sum));
            }
            case 'g' -> groups(e, n[1], n[2], n[3]).forEach((g, s) -> out.put(List.of(g, s), 1L));
            default -> e.keySet().forEach(row -> out.put(row, 1L));
        }
        out.values().removeIf(times -> times == 0);
        return out;
    }

    private static Map<Integer, Integer> groups(
            TreeMap<List<Integer>, Long> e, int kind, int i, int k) {
        Map<Integer, Integer> groups = new HashMap<>();
        e.forEach((row, times) -> {
            int cell = row.get(k);
            int g = row.get(i);
            switch (kind) {
                case 0 -> groups.merge(g, cell * times.intValue(), Integer::sum);
                case 1 -> groups.merge(g, times.intValue(), Integer::sum);
                default -> groups.merge(g, cell, Integer::max);
            }
        });
        return groups;
    }

    private void view(int e) {
        index(e >= 0 && e < views.size());
    }

    private void column(int e, int column) {
        view(e);
        index(column >= 0 && column < views.get(e).width);
    }

    private static void index(boolean fine) {
        if (!fine) {
            throw new IndexOutOfBoundsException();
        }
    }

    private static void argument(boolean fine) {
        if (!fine) {
            throw new IllegalArgumentException();
        }
    }

    private static void state(boolean fine) {
        if (!fine) {
            throw new IllegalStateException();
        }
    }

    private static void element(boolean fine) {
        if (!fine) {
            throw new NoSuchElementException();
        }
    }
}
