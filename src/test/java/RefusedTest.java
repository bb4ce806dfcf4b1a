import java.util.Arrays;

/** A call that is refused changes nothing: behind it an object answers as its twin does that was never asked. */
final class RefusedTest {
    private static final Due DUE = new Due();
    private static final int LEAST = Integer.MIN_VALUE;
    private static final int MOST = Integer.MAX_VALUE;

    private interface Call {
        long on(EarChart chart);
    }

    /** How a chart is made ahead of the refused call: STATES of them. */
    private static final int EMPTY = 0;
    private static final int MIXED = 1;
    private static final int FULL = 2;
    private static final int STATES = 3;

    public static void main(String[] args) {
        rows();
        numbers();
        shapes();
        pairs();
        tones();
        wholes();
        walks();
        DUE.end();
    }

    private static EarChart made(int state) {
        EarChart chart = new EarChart();
        if (state == EMPTY) {
            return chart;
        }
        if (state == MIXED) {
            Due.fill(chart, 0, 0, 30, 10, Due.GAP, 10, 0);
            Due.fill(chart, 1, 2, 3, 55, 9);
            Due.fill(chart, 2, 5, 5, 5, 5, 5, 5, 5, Due.GAP);
        } else {
            Due.fill(chart, 0, Due.zigzag(0, 50));
            Due.fill(chart, 1, Due.zigzag(2, 52));
            Due.fill(chart, 2, Due.zigzag(5, Due.GAP));
            Due.fill(chart, 3, Due.zigzag(50, 0));
        }
        chart.scale(1, 1);
        chart.ear(3, 7);
        chart.part(6);
        chart.miss(1, 1);
        chart.worth(2, 40);
        chart.walk(1, 2);
        return chart;
    }

    /** What a chart answers to all that shows its state; it is of no more use then. */
    private static int[] told(EarChart chart) {
        int[] told = new int[400];
        int count = 0;
        for (int row = 0; row < 4; row++) {
            for (int step = 0; step <= 40; step++) {
                told[count++] = chart.at(row, step);
            }
            told[count++] = chart.spans(row);
            told[count++] = chart.cost(row);
            told[count++] = chart.turnsOf(row);
            told[count++] = chart.height(row, 0);
            told[count++] = chart.slot(row, 0);
            told[count++] = chart.slot(row, 1);
        }
        told[count++] = chart.lay(0);
        told[count++] = chart.lay(1);
        told[count++] = chart.sure(0, 1, 0);
        told[count++] = chart.crossings(0, 1);
        told[count++] = chart.hears(0, 1, 0);
        told[count++] = chart.where(0);
        told[count++] = chart.where(1);
        for (int row = 0; row < 4; row++) {
            told[count++] = chart.miss(row, 0);
            told[count++] = chart.worth(row, 0);
        }
        told[count++] = chart.part(0);
        return told;
    }

    private static void refused(String name, long due, Call call) {
        for (int state = 0; state < STATES; state++) {
            refusedIn(state, name, due, call);
        }
    }

    private static void refusedIn(int state, String name, long due, Call call) {
        EarChart chart = made(state);
        DUE.promise("refused in state " + state);
        DUE.is(name, call.on(chart), due);
        DUE.is(name + " changes nothing", Arrays.equals(told(chart), told(made(state))), true);
    }

    private static void rows() {
        for (int row : Due.NO_ROWS) {
            refused("value(" + row + ", 1)", -1, chart -> chart.value(row, 1));
            refused("gap(" + row + ")", -1, chart -> chart.gap(row));
            refused("put(" + row + ", 0, 1)", 0, chart -> chart.put(row, 0, 1) ? 1 : 0);
            refused("clear(" + row + ")", -1, chart -> chart.clear(row));
            refused("at(" + row + ", 0)", -6000, chart -> chart.at(row, 0));
        }
        for (int row = 0; row < 4; row++) {
            int chosen = row;
            for (int v : Due.NO_VALUES) {
                refused("value(" + row + ", " + v + ")", -1, chart -> chart.value(chosen, v));
                refused("put(" + row + ", 0, " + v + ")", 0, chart -> chart.put(chosen, 0, v) ? 1 : 0);
                refused("put(" + row + ", 3, " + v + ")", 0, chart -> chart.put(chosen, 3, v) ? 1 : 0);
            }
            for (int step : Due.NO_STEPS) {
                refused("put(" + row + ", " + step + ", 1)", 0, chart -> chart.put(chosen, step, 1) ? 1 : 0);
                refused("at(" + row + ", " + step + ")", -6000, chart -> chart.at(chosen, step));
            }
            refusedIn(FULL, "value(" + row + ", 1)", -1, chart -> chart.value(chosen, 1));
            refusedIn(FULL, "gap(" + row + ")", -1, chart -> chart.gap(chosen));
            refusedIn(EMPTY, "put(" + row + ", 0, 1)", 0, chart -> chart.put(chosen, 0, 1) ? 1 : 0);
        }
        refusedIn(MIXED, "put(0, 6, 1)", 0, chart -> chart.put(0, 6, 1) ? 1 : 0);
        refusedIn(MIXED, "put(3, 0, 1)", 0, chart -> chart.put(3, 0, 1) ? 1 : 0);
    }

    private static void numbers() {
        for (int row : Due.NO_ROWS) {
            refused("miss(" + row + ", 9)", -1, chart -> chart.miss(row, 9));
            refused("worth(" + row + ", 9)", -1, chart -> chart.worth(row, 9));
        }
        for (int row = 0; row < 4; row++) {
            int chosen = row;
            for (int v : new int[] {-1, 201, LEAST, MOST}) {
                refused("miss(" + row + ", " + v + ")", -1, chart -> chart.miss(chosen, v));
            }
            for (int v : new int[] {-1, 1001, LEAST, MOST}) {
                refused("worth(" + row + ", " + v + ")", -1, chart -> chart.worth(chosen, v));
            }
        }
        for (int v : new int[] {-1, 10001, LEAST, MOST}) {
            refused("part(" + v + ")", -1, chart -> chart.part(v));
        }
        for (int hide : new int[] {-1, 61, LEAST, MOST}) {
            refused("ear(" + hide + ", 9)", 0, chart -> chart.ear(hide, 9) ? 1 : 0);
        }
        for (int late : new int[] {-1, 101, LEAST, MOST}) {
            refused("ear(1, " + late + ")", 0, chart -> chart.ear(1, late) ? 1 : 0);
        }
    }

    private static void shapes() {
        for (int row : Due.NO_ROWS) {
            refused("spans(" + row + ")", -1, chart -> chart.spans(row));
            refused("cost(" + row + ")", -1, chart -> chart.cost(row));
            refused("span(" + row + ", 0, 0)", -1, chart -> chart.span(row, 0, 0));
            refused("kind(" + row + ", 0)", 0, chart -> chart.kind(row, 0));
            refused("turnsOf(" + row + ")", -1, chart -> chart.turnsOf(row));
            refused("turn(" + row + ", 0)", -1, chart -> chart.turn(row, 0));
        }
        for (int k : new int[] {-1, 39, 40, LEAST, MOST}) {
            refused("span(0, " + k + ", 0)", -1, chart -> chart.span(0, k, 0));
            refused("turn(0, " + k + ")", -1, chart -> chart.turn(0, k));
            refused("crossing(0, 1, " + k + ")", -1, chart -> chart.crossing(0, 1, k));
        }
        for (int what : new int[] {-1, 3, LEAST, MOST}) {
            refused("span(0, 0, " + what + ")", -1, chart -> chart.span(0, 0, what));
        }
        for (int step : Due.NO_STEPS) {
            refused("kind(0, " + step + ")", 0, chart -> chart.kind(0, step));
        }
    }

    private static void pairs() {
        for (int row : new int[] {0, -1, 4, LEAST, MOST}) {
            refused("sure(0, " + row + ", 0)", -2, chart -> chart.sure(0, row, 0));
            refused("sure(" + row + ", 0, 0)", -2, chart -> chart.sure(row, 0, 0));
            refused("crossings(0, " + row + ")", -1, chart -> chart.crossings(0, row));
            refused("crossings(" + row + ", 0)", -1, chart -> chart.crossings(row, 0));
            refused("crossing(0, " + row + ", 0)", -1, chart -> chart.crossing(0, row, 0));
            refused("crossing(" + row + ", 0, 0)", -1, chart -> chart.crossing(row, 0, 0));
            refused("hears(0, " + row + ", 0)", -2, chart -> chart.hears(0, row, 0));
            refused("hears(" + row + ", 0, 0)", -2, chart -> chart.hears(row, 0, 0));
        }
        for (int step : Due.NO_STEPS) {
            refused("sure(0, 1, " + step + ")", -2, chart -> chart.sure(0, 1, step));
            refused("hears(0, 1, " + step + ")", -2, chart -> chart.hears(0, 1, step));
        }
    }

    private static void tones() {
        for (int d : new int[] {0, -1, 2001, LEAST, MOST}) {
            refused("scale(" + d + ", 1)", -1, chart -> chart.scale(d, 1));
        }
        for (int apart : new int[] {0, -1, 21, LEAST, MOST}) {
            refused("scale(2000, " + apart + ")", -1, chart -> chart.scale(2000, apart));
        }
        refused("scale(1, 2), G of 0", -2, chart -> chart.scale(1, 2));
        refusedIn(EMPTY, "scale(2, 1), no VALUE", -2, chart -> chart.scale(2, 1));
        for (int row : Due.NO_ROWS) {
            refused("height(" + row + ", 0)", -1, chart -> chart.height(row, 0));
            refused("slot(" + row + ", 0)", -1, chart -> chart.slot(row, 0));
        }
        for (int step : Due.NO_STEPS) {
            refused("height(0, " + step + ")", -1, chart -> chart.height(0, step));
            refused("slot(0, " + step + ")", -1, chart -> chart.slot(0, step));
            refused("lay(" + step + ")", -1, chart -> chart.lay(step));
        }
    }

    private static void wholes() {
        for (int row : Due.NO_ROWS) {
            refused("whole(" + row + ", 9, 0)", -1, chart -> chart.whole(row, 9, 0));
        }
        for (int beats : new int[] {0, -1, 201, LEAST, MOST}) {
            refused("whole(0, " + beats + ", 0)", -1, chart -> chart.whole(0, beats, 0));
        }
        for (int k : new int[] {-1, 39, 40, LEAST, MOST}) {
            refused("whole(0, 200, " + k + ")", -1, chart -> chart.whole(0, 200, k));
        }
        refusedIn(FULL, "whole(0, 38, 0), fewer BEATS than SPANS", -1, chart -> chart.whole(0, 38, 0));
    }

    private static void walks() {
        for (int row : Due.NO_ROWS) {
            refused("walk(" + row + ", 0)", 0, chart -> chart.walk(row, 0) ? 1 : 0);
        }
        for (int step : Due.NO_STEPS) {
            refused("walk(0, " + step + ")", 0, chart -> chart.walk(0, step) ? 1 : 0);
        }
        refusedIn(MIXED, "walk(3, 0)", 0, chart -> chart.walk(3, 0) ? 1 : 0);
        refusedIn(MIXED, "walk(0, 6)", 0, chart -> chart.walk(0, 6) ? 1 : 0);
        for (int what : new int[] {-1, 3, LEAST, MOST}) {
            refused("where(" + what + ")", -1, chart -> chart.where(what));
            refused("seek(true, " + what + ")", -1, chart -> chart.seek(true, what));
            refused("seek(false, " + what + ")", -1, chart -> chart.seek(false, what));
        }
        refusedIn(EMPTY, "go(true)", -1, chart -> chart.go(true));
        refusedIn(EMPTY, "go(false)", -1, chart -> chart.go(false));
        for (int what = 0; what < 3; what++) {
            int chosen = what;
            refusedIn(EMPTY, "seek(true, " + what + ")", -1, chart -> chart.seek(true, chosen));
        }
        refusedIn(MIXED, "seek(true, 2)", -1, chart -> chart.seek(true, 2));
        refusedIn(FULL, "seek(false, 2)", -1, chart -> chart.seek(false, 2));
    }
}
