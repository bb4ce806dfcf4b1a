/** Promises 1 to 8: a new object, and what ROWS hold. */
final class RowsTest {
    private static final Due DUE = new Due();

    public static void main(String[] args) {
        aNewObject();
        value();
        gap();
        put();
        clear();
        miss();
        part();
        at();
        DUE.end();
    }

    private static void aNewObject() {
        DUE.promise("promise 1");
        EarChart chart = new EarChart();
        DUE.is("NONE", EarChart.NONE, -1);
        for (int row = 0; row < 4; row++) {
            DUE.is("at", chart.at(row, 0), -6000);
            DUE.is("spans", chart.spans(row), 0);
            DUE.is("cost", chart.cost(row), 0);
            DUE.is("turnsOf", chart.turnsOf(row), 0);
            DUE.is("miss", chart.miss(row, 0), 0);
            DUE.is("worth", chart.worth(row, 50), 50);
            DUE.is("clear", chart.clear(row), 0);
            DUE.is("height", chart.height(row, 0), -1);
        }
        DUE.is("part", chart.part(10), 10);
        DUE.is("lay", chart.lay(0), -1);
        DUE.is("hears", chart.hears(0, 1, 0), -2);
        DUE.is("where", chart.where(0), -1);
        EarChart other = new EarChart();
        chart.value(0, 7);
        chart.part(3);
        chart.scale(1, 1);
        DUE.is("at of another object", other.at(0, 0), -6000);
        DUE.is("part of another object", other.part(10), 10);
        DUE.is("lay of another object", other.lay(0), -1);
    }

    private static void value() {
        DUE.promise("promise 2");
        EarChart chart = new EarChart();
        DUE.is("least", chart.value(0, -1000), 1);
        DUE.is("greatest", chart.value(0, 1000), 2);
        DUE.is("too small", chart.value(0, -1001), -1);
        DUE.is("too great", chart.value(0, 1001), -1);
        DUE.is("-5000", chart.value(0, -5000), -1);
        DUE.is("least int", chart.value(0, Integer.MIN_VALUE), -1);
        for (int row : Due.NO_ROWS) {
            DUE.is("no row", chart.value(row, 0), -1);
        }
        DUE.is("of another row", chart.value(3, 5), 1);
        for (int count = 3; count <= 40; count++) {
            DUE.is("more", chart.value(0, count), count);
        }
        DUE.is("a 41st", chart.value(0, 0), -1);
        DUE.is("the last", chart.at(0, 39), 40);
        DUE.is("none beyond", chart.at(0, 40), -6000);
        DUE.is("of another row, still", chart.value(3, 5), 2);
    }

    private static void gap() {
        DUE.promise("promise 3");
        EarChart chart = new EarChart();
        for (int count = 1; count <= 40; count++) {
            DUE.is("more", chart.gap(2), count);
        }
        DUE.is("a 41st", chart.gap(2), -1);
        DUE.is("a value behind them", chart.value(2, 1), -1);
        DUE.is("the last", chart.at(2, 39), -5000);
        DUE.is("of another row", chart.gap(1), 1);
        for (int row : Due.NO_ROWS) {
            DUE.is("no row", chart.gap(row), -1);
        }
    }

    private static void put() {
        DUE.promise("promise 4");
        EarChart chart = Due.chart(1, Due.GAP, 3);
        DUE.is("a value", chart.put(0, 0, -1000), true);
        DUE.is("a gap", chart.put(0, 1, 1000), true);
        DUE.is("the same again", chart.put(0, 2, 3), true);
        DUE.is("at 0", chart.at(0, 0), -1000);
        DUE.is("at 1", chart.at(0, 1), 1000);
        DUE.is("at 2", chart.at(0, 2), 3);
        DUE.is("beyond", chart.put(0, 3, 1), false);
        DUE.is("ahead", chart.put(0, -1, 1), false);
        DUE.is("far beyond", chart.put(0, Integer.MAX_VALUE, 1), false);
        DUE.is("too small", chart.put(0, 0, -1001), false);
        DUE.is("too great", chart.put(0, 0, 1001), false);
        DUE.is("empty row", chart.put(1, 0, 1), false);
        for (int row : Due.NO_ROWS) {
            DUE.is("no row", chart.put(row, 0, 1), false);
        }
        DUE.is("at 0, still", chart.at(0, 0), -1000);
        DUE.is("no step more", chart.at(0, 3), -6000);
    }

    private static void clear() {
        DUE.promise("promise 5");
        EarChart chart = Due.chart(1, Due.GAP, 3);
        Due.fill(chart, 1, 8, 9);
        chart.miss(0, 7);
        chart.worth(0, 8);
        chart.walk(1, 1);
        DUE.is("had", chart.clear(0), 3);
        DUE.is("empty", chart.at(0, 0), -6000);
        DUE.is("had none", chart.clear(0), 0);
        DUE.is("another row", chart.at(1, 1), 9);
        DUE.is("a walk along another row", chart.where(0), 1);
        DUE.is("miss stays", chart.miss(0, 7), 7);
        DUE.is("worth stays", chart.worth(0, 8), 8);
        DUE.is("a step again", chart.value(0, 4), 1);
        DUE.is("none behind it", chart.at(0, 1), -6000);
        DUE.is("no spans of old steps", chart.spans(0), 0);
        for (int row : Due.NO_ROWS) {
            DUE.is("no row", chart.clear(row), -1);
        }
        DUE.is("a walk, still", chart.where(1), 1);
        DUE.is("the walked row", chart.clear(1), 2);
        DUE.is("the walk is over", chart.where(0), -1);
        Due.fill(chart, 1, 8, 9);
        DUE.is("it does not come back", chart.go(true), -1);
    }

    private static void miss() {
        DUE.promise("promise 6");
        EarChart chart = new EarChart();
        DUE.is("at first", chart.miss(0, 200), 0);
        DUE.is("then", chart.miss(0, 0), 200);
        DUE.is("too small", chart.miss(0, -1), -1);
        DUE.is("too great", chart.miss(0, 201), -1);
        DUE.is("it stays", chart.miss(0, 5), 0);
        DUE.is("of another row", chart.miss(3, 6), 0);
        DUE.is("each its own", chart.miss(0, 0), 5);
        DUE.is("each its own", chart.miss(3, 0), 6);
        for (int row : Due.NO_ROWS) {
            DUE.is("no row", chart.miss(row, 0), -1);
        }
    }

    private static void part() {
        DUE.promise("promise 7");
        EarChart chart = new EarChart();
        DUE.is("at first", chart.part(10000), 10);
        DUE.is("then", chart.part(0), 10000);
        DUE.is("too small", chart.part(-1), -1);
        DUE.is("too great", chart.part(10001), -1);
        DUE.is("it stays", chart.part(4), 0);
        Due.fill(chart, 0, 1, 2);
        DUE.is("cost", chart.cost(0), 4);
    }

    private static void at() {
        DUE.promise("promise 8");
        EarChart chart = Due.chart(-1000, Due.GAP, 1000);
        DUE.is("a value", chart.at(0, 0), -1000);
        DUE.is("a gap", chart.at(0, 1), -5000);
        DUE.is("a value", chart.at(0, 2), 1000);
        DUE.is("beyond", chart.at(0, 3), -6000);
        DUE.is("ahead", chart.at(0, -1), -6000);
        DUE.is("far ahead", chart.at(0, Integer.MIN_VALUE), -6000);
        DUE.is("far beyond", chart.at(0, Integer.MAX_VALUE), -6000);
        DUE.is("empty row", chart.at(1, 0), -6000);
        for (int row : Due.NO_ROWS) {
            DUE.is("no row", chart.at(row, 0), -6000);
        }
    }
}
