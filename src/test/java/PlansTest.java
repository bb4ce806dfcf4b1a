/** Promises 25 to 29: THE WHOLE in BEATS, and WALKS. */
final class PlansTest {
    private static final Due DUE = new Due();

    public static void main(String[] args) {
        whole();
        walk();
        where();
        go();
        seekTurns();
        seekCrossings();
        seekGaps();
        DUE.end();
    }

    private static void beats(EarChart chart, int beats, int... due) {
        for (int k = 0; k < due.length; k++) {
            DUE.is("span " + k + " in " + beats + " beats", chart.whole(0, beats, k), due[k]);
        }
        DUE.is("no span more in " + beats + " beats", chart.whole(0, beats, due.length), -1);
    }

    private static void whole() {
        DUE.promise("promise 25");
        EarChart chart = Due.chart(0, 50, 100, 150, 0, Due.GAP, 100, 50, 0);
        beats(chart, 3, 1, 1, 1);
        beats(chart, 4, 2, 1, 1);
        beats(chart, 5, 2, 1, 2);
        beats(chart, 6, 3, 1, 2);
        beats(chart, 7, 3, 2, 2);
        beats(chart, 9, 4, 2, 3);
        beats(chart, 200, 99, 34, 67);
        DUE.is("fewer beats than spans", chart.whole(0, 2, 0), -1);
        DUE.is("0", chart.whole(0, 0, 0), -1);
        DUE.is("-1", chart.whole(0, -1, 0), -1);
        DUE.is("201", chart.whole(0, 201, 0), -1);
        DUE.is("k -1", chart.whole(0, 9, -1), -1);
        DUE.is("k far", chart.whole(0, 9, Integer.MAX_VALUE), -1);
        DUE.is("no span", chart.whole(1, 9, 0), -1);
        for (int row : Due.NO_ROWS) {
            DUE.is("no row", chart.whole(row, 9, 0), -1);
        }
        beats(Due.chart(0, 50, 0, 50), 5, 2, 2, 1);
        beats(Due.chart(0, 50), 200, 200);
        beats(Due.chart(0, 50), 1, 1);
        Due.fill(chart, 3, 0, 50, 0, 50, 100, 0, 50);
        DUE.is("a row of more spans", chart.whole(3, 12, 2), 4);
        beats(chart, 200, 99, 34, 67);
    }

    private static void walk() {
        DUE.promise("promise 26");
        EarChart chart = Due.chart(1, Due.GAP, 3);
        DUE.is("an empty row", chart.walk(1, 0), false);
        DUE.is("beyond", chart.walk(0, 3), false);
        DUE.is("ahead", chart.walk(0, -1), false);
        DUE.is("far", chart.walk(0, Integer.MAX_VALUE), false);
        for (int row : Due.NO_ROWS) {
            DUE.is("no row", chart.walk(row, 0), false);
        }
        DUE.is("no walk by what is refused", chart.where(0), -1);
        DUE.is("the last step", chart.walk(0, 2), true);
        DUE.is("step", chart.where(1), 2);
        DUE.is("a gap", chart.walk(0, 1), true);
        DUE.is("step", chart.where(1), 1);
        DUE.is("refused", chart.walk(1, 0), false);
        DUE.is("the walk stays", chart.where(0), 0);
        DUE.is("at its step", chart.where(1), 1);
    }

    private static void where() {
        DUE.promise("promise 27");
        EarChart chart = new EarChart();
        DUE.is("without a walk", chart.where(0), -1);
        DUE.is("without a walk", chart.where(1), -1);
        Due.fill(chart, 3, 7, 8);
        chart.walk(3, 1);
        DUE.is("row", chart.where(0), 3);
        DUE.is("step", chart.where(1), 1);
        DUE.is("2", chart.where(2), -1);
        DUE.is("-1", chart.where(-1), -1);
        chart.put(3, 1, 9);
        chart.gap(3);
        DUE.is("step, still", chart.where(1), 1);
        chart.clear(3);
        DUE.is("over", chart.where(1), -1);
    }

    private static void go() {
        DUE.promise("promise 28");
        EarChart chart = Due.chart(1, Due.GAP, 3);
        DUE.is("without a walk", chart.go(true), -1);
        DUE.is("without a walk", chart.go(false), -1);
        chart.walk(0, 0);
        DUE.is("back at 0", chart.go(false), -1);
        DUE.is("it stays", chart.where(1), 0);
        DUE.is("into a gap", chart.go(true), 1);
        DUE.is("on", chart.go(true), 2);
        DUE.is("at the end", chart.go(true), -1);
        DUE.is("it stays", chart.where(1), 2);
        chart.value(0, 4);
        DUE.is("on into a new step", chart.go(true), 3);
        DUE.is("back", chart.go(false), 2);
        for (int step = 4; step < 40; step++) {
            chart.gap(0);
        }
        chart.walk(0, 38);
        DUE.is("step 39", chart.go(true), 39);
        DUE.is("at the very end", chart.go(true), -1);
    }

    private static void seekTurns() {
        DUE.promise("promise 29, turns");
        EarChart chart = Due.chart(0, 50, 0, 0, 50, 50);
        DUE.is("without a walk", chart.seek(true, 0), -1);
        chart.walk(0, 0);
        DUE.is("first", chart.seek(true, 0), 1);
        DUE.is("second", chart.seek(true, 0), 2);
        DUE.is("no third", chart.seek(true, 0), -1);
        DUE.is("it stays", chart.where(1), 2);
        DUE.is("back", chart.seek(false, 0), 1);
        DUE.is("no more", chart.seek(false, 0), -1);
        chart.walk(0, 5);
        DUE.is("back from the end", chart.seek(false, 0), 2);
        chart.miss(0, 25);
        DUE.is("a turn that the miss may have made", chart.seek(false, 0), -1);
        chart.miss(0, 0);
        DUE.is("3", chart.seek(false, 3), -1);
        DUE.is("-1", chart.seek(false, -1), -1);
        DUE.is("it stays", chart.where(1), 2);
        DUE.is("where it went", chart.go(true), 3);
    }

    private static void seekCrossings() {
        DUE.promise("promise 29, crossings");
        EarChart chart = Due.chart(5, 5, 5, 5, 5, 5);
        DUE.is("without a walk", chart.seek(true, 1), -1);
        Due.fill(chart, 1, 9, 9, 9, 1, 1, 1);
        Due.fill(chart, 2, 9, 1, 1, 1, 1, 1);
        Due.fill(chart, 3, 1, 1, 1, 1, 1, 9);
        chart.walk(0, 0);
        DUE.is("row 2", chart.seek(true, 1), 1);
        DUE.is("row 1", chart.seek(true, 1), 3);
        DUE.is("row 3", chart.seek(true, 1), 5);
        DUE.is("no more", chart.seek(true, 1), -1);
        DUE.is("back to row 1", chart.seek(false, 1), 3);
        DUE.is("back to row 2", chart.seek(false, 1), 1);
        DUE.is("no more", chart.seek(false, 1), -1);
        DUE.is("it stays", chart.where(1), 1);
        chart.walk(3, 2);
        DUE.is("row 3 with row 0", chart.seek(true, 1), 5);
        DUE.is("row 3 with row 0 alone", chart.seek(false, 1), -1);
    }

    private static void seekGaps() {
        DUE.promise("promise 29, gaps");
        EarChart chart = Due.chart(Due.GAP, 1, Due.GAP, Due.GAP, 2);
        DUE.is("without a walk", chart.seek(true, 2), -1);
        chart.walk(0, 0);
        DUE.is("not where it is", chart.seek(true, 2), 2);
        DUE.is("side by side", chart.seek(true, 2), 3);
        DUE.is("no more, not beyond the row", chart.seek(true, 2), -1);
        DUE.is("back", chart.seek(false, 2), 2);
        DUE.is("back to 0", chart.seek(false, 2), 0);
        DUE.is("no more", chart.seek(false, 2), -1);
        chart.put(0, 2, 4);
        DUE.is("no gap any more", chart.seek(true, 2), 3);
        chart.clear(0);
        DUE.is("over", chart.seek(true, 2), -1);
    }
}
