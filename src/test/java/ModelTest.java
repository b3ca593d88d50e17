import java.util.Map;
import java.util.Random;
import java.util.TreeMap;

/** Long runs of calls, always the same ones, answered by the program and by the model. */
public final class ModelTest {
    private static final int RUNS = 1500;
    private static final int CALLS = 512;
    private static final int[] FAR = {Integer.MIN_VALUE, -1001, -1000, -2, 999, 1000, 1001,
        Integer.MAX_VALUE};

    /** How often each kind of call ended how, to be sure that the runs come everywhere. */
    private static final Map<String, Integer> ENDS = new TreeMap<>();

    private final Random random;
    private final DeltaViews x = new DeltaViews();
    private final Model model = new Model();
    private final int cells;
    private final boolean doubles;

    private ModelTest(long seed) {
        random = new Random(seed);
        cells = 2 + random.nextInt(5);
        doubles = random.nextInt(3) == 0;
    }

    public static void main(String[] args) {
        for (int run = 0; run < RUNS; run++) {
            new ModelTest(run).run(run);
        }
        comesEverywhere();
        Check.end();
    }

    private void run(int run) {
        for (int call = 0; call < CALLS; call++) {
            String name = name();
            int[] n = numbers(name);
            String got = outcome(name, n, false);
            String due = outcome(name, n, true);
            Check.holds("run " + run + ", call " + call + ": " + name + java.util.Arrays.toString(n)
                    + " is " + got + ", due " + due, got.equals(due));
            ENDS.merge(name + (due.startsWith("java") ? " " + due : ""), 1, Integer::sum);
        }
    }

    private String name() {
        String[] often = {"change", "change", "change", "change", "change", "commit", "commit",
            "cell", "cell", "times", "times", "rows", "many", "moved", "moved"};
        String[] seldom = {"select", "project", "project", "join", "join", "join", "union", "union",
            "group", "group", "distinct", "width", "drop"};
        int dice = random.nextInt(100);
        if (dice < 2) {
            return "cancel";
        }
        return dice < 75 ? often[random.nextInt(often.length)]
                : seldom[random.nextInt(seldom.length)];
    }

    private int[] numbers(String name) {
        int[] n = new int[5];
        switch (name) {
            case "change" -> fill(n, random.nextInt(3), cell(), cell(), by());
            case "select" -> fill(n, view(), column(), random.nextInt(3), cell());
            case "project" -> fill(n, view(), 1 + random.nextInt(4), columns());
            case "join" -> fill(n, view(), view(), column(), column());
            case "group" -> fill(n, view(), random.nextInt(3), column(), column());
            case "cell" -> fill(n, view(), row(), column());
            case "many" -> fill(n, view(), cell(), cell(), cell(), cell());
            default -> fill(n, view(), name.equals("union") ? view() : row());
        }
        if (random.nextInt(25) == 0) {
            n[random.nextInt(n.length)] = FAR[random.nextInt(FAR.length)];
        }
        return n;
    }

    private static void fill(int[] n, int... numbers) {
        System.arraycopy(numbers, 0, n, 0, numbers.length);
    }

    private int view() {
        return random.nextInt(30) == 0 ? random.nextInt(16) - 2 : random.nextInt(views());
    }

    private int views() {
        int views = 3;
        while (views < 12 && !outcome("width", new int[] {views}, true).startsWith("java")) {
            views++;
        }
        return views;
    }

    private int column() {
        return random.nextInt(30) == 0 ? random.nextInt(7) - 1 : random.nextInt(2);
    }

    private int columns() {
        int columns = random.nextInt(4) == 0 ? random.nextInt() << 16 : 0;
        for (int k = 0; k < 4; k++) {
            columns |= (random.nextInt(8) == 0 ? random.nextInt(4) : random.nextInt(2)) << 4 * k;
        }
        return columns;
    }

    private int row() {
        return random.nextInt(12) == 0 ? random.nextInt(20) - 2 : random.nextInt(4);
    }

    private int cell() {
        return random.nextInt(cells) - cells / 2;
    }

    private int by() {
        if (doubles) {
            return random.nextInt(4) == 0 ? -32 : 32;
        }
        return random.nextInt(5) == 0 ? random.nextInt(220) - 110 : random.nextInt(6) - 2;
    }

    private String outcome(String name, int[] n, boolean due) {
        try {
            return Long.toString(due ? modelCall(name, n) : call(name, n));
        } catch (RuntimeException thrown) {
            return thrown.getClass().getName();
        }
    }

    private long call(String name, int[] n) {
        return switch (name) {
            case "change" -> x.change(n[0], n[1], n[2], n[3]);
            case "cancel" -> x.cancel();
            case "commit" -> x.commit();
            case "select" -> x.select(n[0], n[1], n[2], n[3]);
            case "project" -> x.project(n[0], n[1], n[2]);
            case "join" -> x.join(n[0], n[1], n[2], n[3]);
            case "union" -> x.union(n[0], n[1]);
            case "group" -> x.group(n[0], n[1], n[2], n[3]);
            case "distinct" -> x.distinct(n[0]);
            case "drop" -> x.drop();
            case "width" -> x.width(n[0]);
            case "rows" -> x.rows(n[0]);
            case "cell" -> x.cell(n[0], n[1], n[2]);
            case "times" -> x.times(n[0], n[1]);
            case "many" -> x.many(n[0], n[1], n[2], n[3], n[4]);
            default -> x.moved(n[0]);
        };
    }

    private long modelCall(String name, int[] n) {
        return switch (name) {
            case "change" -> model.change(n[0], n[1], n[2], n[3]);
            case "cancel" -> model.cancel();
            case "commit" -> model.commit();
            case "select" -> model.select(n[0], n[1], n[2], n[3]);
            case "project" -> model.project(n[0], n[1], n[2]);
            case "join" -> model.join(n[0], n[1], n[2], n[3]);
            case "union" -> model.union(n[0], n[1]);
            case "group" -> model.group(n[0], n[1], n[2], n[3]);
            case "distinct" -> model.distinct(n[0]);
            case "drop" -> model.drop();
            case "width" -> model.width(n[0]);
            case "rows" -> model.rows(n[0]);
            case "cell" -> model.cell(n[0], n[1], n[2]);
            case "times" -> model.times(n[0], n[1]);
            case "many" -> model.many(n[0], n[1], n[2], n[3], n[4]);
            default -> model.moved(n[0]);
        };
    }

    private static void comesEverywhere() {
        String index = " java.lang.IndexOutOfBoundsException";
        String argument = " java.lang.IllegalArgumentException";
        String state = " java.lang.IllegalStateException";
        for (String name : new String[] {"change", "select", "project", "join", "union", "group"}) {
            often(name, name + index, name + argument, name + state);
        }
        String element = " java.util.NoSuchElementException";
        often("cancel", "commit", "commit" + state, "distinct", "distinct" + index,
                "distinct" + state, "drop", "width", "width" + index, "rows", "rows" + index,
                "cell", "cell" + index, "cell" + element, "times", "times" + index,
                "times" + element, "many", "many" + index, "moved", "moved" + index);
    }

    private static void often(String... ends) {
        for (String end : ends) {
            Check.holds(end + " is come to often", ENDS.getOrDefault(end, 0) >= 50);
        }
    }
}
