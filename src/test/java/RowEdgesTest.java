/** The boundary cases of promises 1 to 8, each in a test of its own on new objects. */
final class RowEdgesTest {
    private static final Due DUE = new Due();

    public static void main(String[] args) {
        newObjects();
        values();
        gaps();
        puts();
        clears();
        misses();
        parts();
        ats();
        DUE.end();
    }

    // ---- promise 1

    private static void newObjects() {
        DUE.promise("promise 1, empty ROWS");
        for (int row = 0; row < 4; row++) {
            DUE.is("at", new EarChart().at(row, 0), -6000);
            DUE.is("clear", new EarChart().clear(row), 0);
            DUE.is("put", new EarChart().put(row, 0, 0), false);
            DUE.is("walk", new EarChart().walk(row, 0), false);
        }
        newObjectHasNoScale();
        newObjectHasTheFirstNumbers();
        newObjectHasNoWalk();
    }

    private static void newObjectHasNoScale() {
        DUE.promise("promise 1, no SCALE");
        EarChart chart = Due.chart(1);
        Due.fill(chart, 1, 900);
        DUE.is("height", chart.height(0, 0), -1);
        DUE.is("lay", chart.lay(0), -1);
        DUE.is("slot", chart.slot(0, 0), -1);
        DUE.is("hears", chart.hears(0, 1, 0), -2);
    }

    private static void newObjectHasTheFirstNumbers() {
        DUE.promise("promise 1, what is so at first");
        DUE.is("PART is 10", Due.chart(1, 2).cost(0), 10);
        DUE.is("HIDE is above 2", Due.tones(1, 0, 2).slot(1, 0), 1);
        DUE.is("HIDE is not above 3", Due.tones(1, 0, 3).slot(1, 0), 0);
        DUE.is("LATE is 1", Due.tones(1, 0, 2).lay(0), 1);
        for (int row = 0; row < 4; row++) {
            DUE.is("MISS is 0", new EarChart().miss(row, 1), 0);
            DUE.is("WORTH is 50", new EarChart().worth(row, 1), 50);
        }
        EarChart chart = Due.tones(1, 0, 0);
        chart.ear(3, 51);
        DUE.is("WORTH is 50, as it is paid", chart.lay(0), 50);
    }

    private static void newObjectHasNoWalk() {
        DUE.promise("promise 1, no WALK");
        EarChart chart = Due.chart(1, Due.GAP, 1);
        DUE.is("row", chart.where(0), -1);
        DUE.is("step", chart.where(1), -1);
        DUE.is("go", chart.go(true), -1);
        DUE.is("seek", chart.seek(true, 2), -1);
    }

    // ---- promise 2

    private static void values() {
        DUE.promise("promise 2, the least and the greatest VALUE");
        for (int row = 0; row < 4; row++) {
            EarChart chart = new EarChart();
            DUE.is("-1000", chart.value(row, -1000), 1);
            DUE.is("1000", chart.value(row, 1000), 2);
            DUE.is("at 0", chart.at(row, 0), -1000);
            DUE.is("at 1", chart.at(row, 1), 1000);
        }
        DUE.promise("promise 2, no such VALUE");
        for (int v : Due.NO_VALUES) {
            EarChart chart = Due.chart(5);
            DUE.is("value(0, " + v + ")", chart.value(0, v), -1);
            DUE.is("no STEP more", chart.at(0, 1), -6000);
            DUE.is("the next one", chart.value(0, 6), 2);
        }
        DUE.promise("promise 2, no such ROW");
        for (int row : Due.NO_ROWS) {
            DUE.is("value(" + row + ", 0)", new EarChart().value(row, 0), -1);
        }
        valueOfFullRow();
    }

    private static void valueOfFullRow() {
        DUE.promise("promise 2, a full ROW");
        for (int row = 0; row < 4; row++) {
            EarChart chart = new EarChart();
            Due.fill(chart, row, Due.zigzag(3, Due.GAP));
            DUE.is("the 40th is there", chart.at(row, 39), -5000);
            DUE.is("a 41st", chart.value(row, 7), -1);
            DUE.is("a 41st again", chart.value(row, 7), -1);
            DUE.is("none beyond", chart.at(row, 40), -6000);
            DUE.is("the first one is as it was", chart.at(row, 0), 3);
            DUE.is("the last one is as it was", chart.at(row, 39), -5000);
            DUE.is("another ROW is not full", chart.value((row + 1) % 4, 7), 1);
            DUE.is("it had 40", chart.clear(row), 40);
            DUE.is("there is room again", chart.value(row, 7), 1);
        }
        EarChart chart = new EarChart();
        Due.fill(chart, 0, Due.zigzag(3, Due.GAP));
        chart.clear(0);
        for (int count = 1; count <= 40; count++) {
            DUE.is("room for 40", chart.value(0, 1), count);
        }
        DUE.is("no more", chart.value(0, 1), -1);
    }

    // ---- promise 3

    private static void gaps() {
        DUE.promise("promise 3, no such ROW");
        for (int row : Due.NO_ROWS) {
            DUE.is("gap(" + row + ")", new EarChart().gap(row), -1);
        }
        DUE.promise("promise 3, a full ROW");
        for (int row = 0; row < 4; row++) {
            EarChart chart = new EarChart();
            Due.fill(chart, row, Due.zigzag(Due.GAP, 3));
            DUE.is("a 41st", chart.gap(row), -1);
            DUE.is("none beyond", chart.at(row, 40), -6000);
            DUE.is("the last one is as it was", chart.at(row, 39), 3);
            DUE.is("it had 40", chart.clear(row), 40);
        }
        DUE.promise("promise 3, the 40th");
        EarChart chart = new EarChart();
        for (int step = 0; step < 39; step++) {
            chart.value(0, 1);
        }
        DUE.is("how many", chart.gap(0), 40);
        DUE.is("at 39", chart.at(0, 39), -5000);
        DUE.promise("promise 3, the first STEP of an empty ROW");
        DUE.is("how many", new EarChart().gap(3), 1);
    }

    // ---- promise 4

    private static void puts() {
        DUE.promise("promise 4, the first and the last STEP of a full ROW");
        EarChart chart = Due.chart(Due.zigzag(1, 2));
        DUE.is("0", chart.put(0, 0, -1000), true);
        DUE.is("39", chart.put(0, 39, 1000), true);
        DUE.is("at 0", chart.at(0, 0), -1000);
        DUE.is("at 39", chart.at(0, 39), 1000);
        DUE.is("at 1", chart.at(0, 1), 2);
        DUE.is("at 38", chart.at(0, 38), 1);
        DUE.promise("promise 4, no such STEP");
        for (int step : new int[] {-1, 3, 4, 39, 40, Integer.MIN_VALUE, Integer.MAX_VALUE}) {
            EarChart three = Due.chart(1, 2, 3);
            DUE.is("put(0, " + step + ", 5)", three.put(0, step, 5), false);
            DUE.is("no STEP more", three.clear(0), 3);
        }
        DUE.promise("promise 4, no such ROW");
        for (int row : Due.NO_ROWS) {
            DUE.is("put(" + row + ", 0, 5)", Due.chart(1).put(row, 0, 5), false);
        }
        putOfNoSuchValue();
        putIntoGap();
        putIntoClearedRow();
    }

    private static void putOfNoSuchValue() {
        DUE.promise("promise 4, no such VALUE");
        for (int v : Due.NO_VALUES) {
            EarChart chart = Due.chart(7, Due.GAP);
            DUE.is("put(0, 0, " + v + ")", chart.put(0, 0, v), false);
            DUE.is("put(0, 1, " + v + ")", chart.put(0, 1, v), false);
            DUE.is("the VALUE is as it was", chart.at(0, 0), 7);
            DUE.is("the GAP is as it was", chart.at(0, 1), -5000);
        }
    }

    private static void putIntoGap() {
        DUE.promise("promise 4, one that was a GAP");
        EarChart chart = Due.chart(0, Due.GAP, 20);
        DUE.is("no WAY", chart.spans(0), 0);
        DUE.is("put", chart.put(0, 1, 10), true);
        DUE.is("at", chart.at(0, 1), 10);
        DUE.is("two PIECES are one", chart.span(0, 0, 2), 2);
        DUE.is("no STEP more", chart.clear(0), 3);
    }

    private static void putIntoClearedRow() {
        DUE.promise("promise 4, a STEP that the ROW had ahead of clear");
        EarChart chart = Due.chart(1, 2, 3);
        chart.clear(0);
        DUE.is("empty", chart.put(0, 0, 5), false);
        chart.value(0, 4);
        DUE.is("a STEP that is there again", chart.put(0, 0, 5), true);
        DUE.is("one that is not", chart.put(0, 1, 5), false);
    }

    // ---- promise 5

    private static void clears() {
        DUE.promise("promise 5, an empty ROW");
        DUE.is("had", new EarChart().clear(0), 0);
        DUE.promise("promise 5, a full ROW");
        EarChart chart = Due.chart(Due.zigzag(1, 2));
        DUE.is("had", chart.clear(0), 40);
        DUE.is("has none", chart.clear(0), 0);
        DUE.is("at 0", chart.at(0, 0), -6000);
        DUE.is("at 39", chart.at(0, 39), -6000);
        DUE.promise("promise 5, a ROW of GAPS");
        DUE.is("had", Due.chart(Due.GAP, Due.GAP).clear(0), 2);
        DUE.promise("promise 5, no such ROW");
        for (int row : Due.NO_ROWS) {
            EarChart walked = Due.chart(1, 2);
            walked.walk(0, 1);
            DUE.is("clear(" + row + ")", walked.clear(row), -1);
            DUE.is("nothing is cleared", walked.at(0, 1), 2);
            DUE.is("the WALK goes on", walked.where(1), 1);
        }
        clearAndWalks();
        clearKeepsTheRest();
    }

    private static void clearAndWalks() {
        DUE.promise("promise 5, a WALK along it is over");
        for (int row = 0; row < 4; row++) {
            EarChart chart = new EarChart();
            Due.fill(chart, row, 1, Due.GAP, 3);
            chart.walk(row, 1);
            chart.clear(row);
            DUE.is("row", chart.where(0), -1);
            DUE.is("step", chart.where(1), -1);
            Due.fill(chart, row, 1, Due.GAP, 3);
            DUE.is("it is over for good", chart.where(0), -1);
            DUE.is("go", chart.go(false), -1);
            DUE.is("seek", chart.seek(true, 2), -1);
        }
        DUE.promise("promise 5, a WALK along another ROW is not");
        for (int row = 0; row < 3; row++) {
            EarChart chart = Due.chart(1, 2, 3);
            Due.fill(chart, 3, 1, 2, 3);
            chart.walk(3, 2);
            chart.clear(row);
            DUE.is("row", chart.where(0), 3);
            DUE.is("step", chart.where(1), 2);
        }
    }

    private static void clearKeepsTheRest() {
        DUE.promise("promise 5, the STEPS alone go");
        EarChart chart = Due.tones(5, 10, 20);
        chart.miss(0, 200);
        chart.worth(0, 1000);
        chart.part(3);
        chart.clear(0);
        DUE.is("MISS", chart.miss(0, 0), 200);
        DUE.is("WORTH", chart.worth(0, 0), 1000);
        DUE.is("PART", chart.part(0), 3);
        DUE.is("THE SCALE", chart.height(1, 0), 0);
        DUE.is("another ROW", chart.at(1, 0), 20);
    }

    // ---- promise 6

    private static void misses() {
        DUE.promise("promise 6, the least and the greatest MISS");
        for (int row = 0; row < 4; row++) {
            EarChart chart = new EarChart();
            DUE.is("0 at first", chart.miss(row, 200), 0);
            DUE.is("200", chart.miss(row, 0), 200);
            DUE.is("0", chart.miss(row, 1), 0);
        }
        DUE.promise("promise 6, no such MISS");
        for (int v : new int[] {-1, 201, Integer.MIN_VALUE, Integer.MAX_VALUE}) {
            EarChart chart = new EarChart();
            chart.miss(2, 7);
            DUE.is("miss(2, " + v + ")", chart.miss(2, v), -1);
            DUE.is("it is as it was", chart.miss(2, 0), 7);
        }
        DUE.promise("promise 6, no such ROW");
        for (int row : Due.NO_ROWS) {
            DUE.is("miss(" + row + ", 1)", new EarChart().miss(row, 1), -1);
        }
        DUE.promise("promise 6, a ROW without STEPS");
        EarChart chart = new EarChart();
        chart.miss(1, 9);
        Due.fill(chart, 0, 9);
        Due.fill(chart, 1, 0);
        DUE.is("it holds for STEPS that come later", chart.sure(0, 1, 0), 0);
    }

    // ---- promise 7

    private static void parts() {
        DUE.promise("promise 7, the least and the greatest PART");
        EarChart chart = Due.chart(1, 2);
        DUE.is("10 at first", chart.part(0), 10);
        DUE.is("cost at 0", chart.cost(0), 0);
        DUE.is("0", chart.part(10000), 0);
        DUE.is("cost at 10000", chart.cost(0), 10000);
        DUE.is("10000", chart.part(1), 10000);
        DUE.promise("promise 7, no such PART");
        for (int v : new int[] {-1, 10001, Integer.MIN_VALUE, Integer.MAX_VALUE}) {
            EarChart two = Due.chart(1, 2);
            DUE.is("part(" + v + ")", two.part(v), -1);
            DUE.is("cost is as it was", two.cost(0), 10);
            DUE.is("it is as it was", two.part(0), 10);
        }
    }

    // ---- promise 8

    private static void ats() {
        DUE.promise("promise 8, the first and the last STEP");
        EarChart chart = Due.chart(Due.zigzag(-1000, 1000));
        DUE.is("0", chart.at(0, 0), -1000);
        DUE.is("39", chart.at(0, 39), 1000);
        DUE.promise("promise 8, a GAP");
        DUE.is("first", Due.chart(Due.GAP, 1).at(0, 0), -5000);
        DUE.is("last", Due.chart(1, Due.GAP).at(0, 1), -5000);
        DUE.promise("promise 8, no such STEP");
        for (int step : Due.NO_STEPS) {
            DUE.is("at(0, " + step + ") of a full ROW", chart.at(0, step), -6000);
            DUE.is("at(1, " + step + ") of an empty ROW", chart.at(1, step), -6000);
        }
        DUE.is("behind the last one", Due.chart(1, 2).at(0, 2), -6000);
        DUE.promise("promise 8, no such ROW");
        for (int row : Due.NO_ROWS) {
            DUE.is("at(" + row + ", 0)", chart.at(row, 0), -6000);
        }
    }
}
