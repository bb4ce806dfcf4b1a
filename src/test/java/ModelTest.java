import java.util.List;
import java.util.Random;

/** Runs of some 512 calls, drawn by a fixed seed, of which each answer must be the model's; for all promises. */
final class ModelTest {
    private static final Due DUE = new Due();
    private static final int MOST_CALLS = 512;
    /** No question of a run is more calls than these. */
    private static final int CALLS_AT_ONCE = 5;

    private final Random random;
    private final int reach;
    private final int gapsIn;
    private final EarChart chart = new EarChart();
    private final Model model = new Model();

    private ModelTest(int seed) {
        random = new Random(seed);
        int[] reaches = {2, 6, 15, 60, 300, 1000};
        reach = reaches[random.nextInt(reaches.length)];
        gapsIn = 2 + random.nextInt(20);
    }

    public static void main(String[] args) {
        for (int seed = 0; seed < 300; seed++) {
            DUE.promise("run " + seed);
            new ModelTest(seed).run(seed % 3 * 100);
        }
        partingsAgree();
        DUE.end();
    }

    /** Some runs fill their ROWS first, so that full ones come up too. */
    private void run(int changesFirst) {
        int before = DUE.asked();
        for (int made = 0; made <= MOST_CALLS - CALLS_AT_ONCE; made = DUE.asked() - before) {
            if (made < changesFirst || random.nextInt(5) < 2) {
                change();
            } else {
                ask();
            }
        }
    }

    /** Both ways in which the model parts a PIECE must agree where both can be used. */
    private static void partingsAgree() {
        DUE.promise("the model");
        Random random = new Random(1);
        for (int turn = 0; turn < 400; turn++) {
            Model model = new Model();
            model.part = random.nextInt(8);
            Integer[] values = new Integer[2 + random.nextInt(7)];
            for (int i = 0; i < values.length; i++) {
                values[i] = random.nextInt(8);
            }
            Model.Parting tried = model.partByTrying("", List.of(values));
            Model.Parting begun = model.partByPrefixes(List.of(values));
            DUE.is("kinds of " + List.of(values), tried.kinds().equals(begun.kinds()), true);
            DUE.is("cost of " + List.of(values), tried.cost(), begun.cost());
        }
    }

    private int odd() {
        int[] odd = {-1, 4, 40, 41, 1001, -1001, -5000, Integer.MIN_VALUE, Integer.MAX_VALUE};
        return odd[random.nextInt(odd.length)];
    }

    private int row() {
        return random.nextInt(40) == 0 ? odd() : random.nextInt(4);
    }

    private int number(int bound) {
        return random.nextInt(30) == 0 ? odd() : random.nextInt(Math.max(1, bound));
    }

    private int step() {
        int longest = 0;
        for (List<Integer> row : model.rows) {
            longest = Math.max(longest, row.size());
        }
        return number(longest + 1);
    }

    private int drawn() {
        return random.nextInt(60) == 0 ? odd() : random.nextInt(2 * reach + 1) - reach;
    }

    private void change() {
        int row = row();
        switch (random.nextInt(24)) {
            case 0 -> changeMiss(row, number(random.nextBoolean() ? 4 : reach / 2));
            case 1 -> changePart(number(random.nextBoolean() ? 5 : reach));
            case 2 -> changeWorth(row, number(120));
            case 3 -> changeEar(number(random.nextBoolean() ? 4 : 64), number(random.nextBoolean() ? 3 : 60));
            case 4, 5 -> {
                int d = 1 + number(random.nextBoolean() ? 30 : 300);
                int apart = number(7);
                DUE.is("scale(" + d + ", " + apart + ")", chart.scale(d, apart), model.scale(d, apart));
            }
            case 6, 7 -> changeWalk(row, step());
            case 8, 9 -> changePut(row, step(), drawn());
            case 10 -> {
                if (random.nextInt(6) == 0) {
                    changeClear(row);
                }
            }
            default -> {
                if (random.nextInt(gapsIn) == 0) {
                    DUE.is("gap", chart.gap(row), model.append(row, null));
                } else {
                    int v = drawn();
                    DUE.is("value", chart.value(row, v), model.append(row, v));
                }
            }
        }
    }

    private void changeMiss(int row, int v) {
        boolean can = model.isRow(row) && v >= 0 && v <= 200;
        DUE.is("miss", chart.miss(row, v), can ? model.miss[row] : -1);
        if (can) {
            model.miss[row] = v;
        }
    }

    private void changePart(int v) {
        boolean can = v >= 0 && v <= 10000;
        DUE.is("part", chart.part(v), can ? model.part : -1);
        if (can) {
            model.part = v;
        }
    }

    private void changeWorth(int row, int v) {
        boolean can = model.isRow(row) && v >= 0 && v <= 1000;
        DUE.is("worth", chart.worth(row, v), can ? model.worth[row] : -1);
        if (can) {
            model.worth[row] = v;
        }
    }

    private void changeEar(int hide, int late) {
        boolean can = hide >= 0 && hide <= 60 && late >= 0 && late <= 100;
        DUE.is("ear", chart.ear(hide, late), can);
        if (can) {
            model.hide = hide;
            model.late = late;
        }
    }

    private void changeWalk(int row, int step) {
        boolean can = model.isStep(row, step);
        DUE.is("walk", chart.walk(row, step), can);
        if (can) {
            model.walkRow = row;
            model.walkStep = step;
        }
    }

    private void changePut(int row, int step, int v) {
        boolean can = model.isStep(row, step) && Math.abs((long) v) <= 1000;
        DUE.is("put", chart.put(row, step, v), can);
        if (can) {
            model.rows.get(row).set(step, v);
        }
    }

    private void changeClear(int row) {
        boolean can = model.isRow(row);
        DUE.is("clear", chart.clear(row), can ? model.rows.get(row).size() : -1);
        if (can) {
            model.rows.get(row).clear();
            if (model.walkRow == row) {
                model.walkRow = -1;
            }
        }
    }

    private void ask() {
        switch (random.nextInt(4)) {
            case 0 -> askShape(row(), number(8));
            case 1 -> askPair(row(), row(), step(), number(5));
            case 2 -> askTones(row(), step());
            default -> askWalk();
        }
    }

    private static int pick(List<Integer> of, int k) {
        return k >= 0 && k < of.size() ? of.get(k) : -1;
    }

    private void askShape(int row, int k) {
        boolean is = model.isRow(row);
        int[] cost = new int[1];
        List<Model.Span> spans = is ? model.spans(row, cost) : List.of();
        switch (random.nextInt(7)) {
            case 0 -> DUE.is("spans", chart.spans(row), is ? spans.size() : -1);
            case 1 -> DUE.is("cost", chart.cost(row), is ? cost[0] : -1);
            case 2 -> {
                int what = number(4);
                Model.Span span = k >= 0 && k < spans.size() ? spans.get(k) : new Model.Span(-1, -1, -1);
                int due = what == 0 ? span.kind() : what == 1 ? span.first() : what == 2 ? span.last() : -1;
                DUE.is("span", chart.span(row, k, what), due);
            }
            case 3 -> {
                int step = step();
                int due = 0;
                for (Model.Span span : spans) {
                    due = span.first() <= step && step < span.last() ? span.kind() : due;
                }
                DUE.is("kind", chart.kind(row, step), due);
            }
            case 4 -> DUE.is("turnsOf", chart.turnsOf(row), is ? model.turns(row).size() : -1);
            case 5 -> DUE.is("turn", chart.turn(row, k), is ? pick(model.turns(row), k) : -1);
            default -> {
                int beats = random.nextBoolean() ? number(30) : number(205);
                DUE.is("whole", chart.whole(row, beats, k), model.whole(row, beats, k));
            }
        }
    }

    private void askPair(int a, int b, int step, int k) {
        boolean are = model.areRows(a, b);
        DUE.is("sure", chart.sure(a, b, step), model.sure(a, b, step));
        DUE.is("crossings", chart.crossings(a, b), are ? model.crossings(a, b).size() : -1);
        DUE.is("crossing", chart.crossing(a, b, k), are ? pick(model.crossings(a, b), k) : -1);
        int heard = chart.hears(a, b, step);
        DUE.is("hears", heard, model.hears(a, b, step));
        if (Math.abs(heard) == 1) {
            DUE.is("what is heard is never false", chart.sure(a, b, step), heard);
        }
    }

    private void askTones(int row, int step) {
        boolean can = model.g > 0 && step >= 0 && step < 40;
        DUE.is("height", chart.height(row, step), model.height(row, step));
        DUE.is("lay", chart.lay(step), can ? model.laying(step)[4] : -1);
        DUE.is("slot", chart.slot(row, step), can && model.isRow(row) ? model.laying(step)[row] : -1);
        Integer v = model.valueAt(row, step);
        DUE.is("at", chart.at(row, step), v != null ? v : model.isStep(row, step) ? -5000 : -6000);
    }

    private void askWalk() {
        boolean on = random.nextBoolean();
        DUE.is("where(0)", chart.where(0), model.walkRow);
        DUE.is("where(1)", chart.where(1), model.walkRow < 0 ? -1 : model.walkStep);
        if (random.nextInt(3) == 0) {
            int next = model.walkStep + (on ? 1 : -1);
            boolean can = model.isStep(model.walkRow, next);
            DUE.is("go", chart.go(on), can ? next : -1);
            model.walkStep = can ? next : model.walkStep;
        } else {
            int what = number(4);
            DUE.is("seek", chart.seek(on, what), model.seek(on, what));
        }
    }
}
