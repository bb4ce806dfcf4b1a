/** Promises 9 to 17: SPANS, TURNS, what is SURE, CROSSINGS. */
final class ShapesTest {
    private static final Due DUE = new Due();

    public static void main(String[] args) {
        spansAndCost();
        likeCosts();
        span();
        kind();
        turns();
        turnsNeedRiseAndFall();
        sure();
        crossings();
        DUE.end();
    }

    private static void spansAndCost() {
        DUE.promise("promises 9 and 10");
        EarChart chart = Due.chart(5);
        DUE.is("a piece of one", chart.spans(0), 0);
        DUE.is("costs nothing", chart.cost(0), 0);
        chart = Due.chart(0, 100, 0, Due.GAP, 7, Due.GAP, Due.GAP, 50, 50, 20);
        DUE.is("rise, fall; fall", chart.spans(0), 3);
        DUE.is("three parts", chart.cost(0), 30);
        DUE.is("of the empty row", chart.spans(1), 0);
        chart.part(100);
        DUE.is("rise; fall", chart.spans(0), 2);
        DUE.is("two parts and 100", chart.cost(0), 300);
        chart.part(10000);
        DUE.is("two at least", chart.spans(0), 2);
        DUE.is("two parts and 100", chart.cost(0), 20100);
        chart.part(0);
        DUE.is("no cost", chart.cost(0), 0);
        chart = Due.chart(0, 6, 0, 6, 0, 6, 0);
        chart.part(10);
        DUE.is("one rise", chart.spans(0), 1);
        DUE.is("a part and three falls", chart.cost(0), 28);
        for (int row : Due.NO_ROWS) {
            DUE.is("no row", chart.spans(row), -1);
            DUE.is("no row", chart.cost(row), -1);
        }
        chart.clear(0);
        for (int step = 0; step < 40; step++) {
            chart.value(0, step % 2 == 0 ? -1000 : 1000);
        }
        DUE.is("39 spans", chart.spans(0), 39);
        DUE.is("39 parts", chart.cost(0), 390);
        chart.part(10000);
        DUE.is("one span", chart.spans(0), 1);
        DUE.is("19 falls of 2000", chart.cost(0), 48000);
    }

    private static void likeCosts() {
        DUE.promise("promise 9, of several the first");
        EarChart chart = Due.chart(5, 5, 5);
        DUE.is("nothing moves: a rise", chart.span(0, 0, 0), 1);
        DUE.is("nothing moves: one span", chart.spans(0), 1);
        chart = Due.chart(0, 10, 0);
        DUE.is("rise of 20 or fall of 20 or both: a rise", chart.spans(0), 1);
        DUE.is("a rise", chart.kind(0, 1), 1);
        chart = Due.chart(10, 0, 10);
        DUE.is("fall and rise, or a rise: a rise", chart.spans(0), 1);
        DUE.is("a rise", chart.kind(0, 0), 1);
        chart = Due.chart(0, 50, 50, 50, 0);
        DUE.is("the rise goes on through what is still", chart.span(0, 0, 2), 3);
        chart = Due.chart(50, 0, 0, 0, 50);
        DUE.is("the rise begins as soon as it can", chart.span(0, 1, 1), 1);
        chart.part(0);
        DUE.is("at part 0 too", chart.span(0, 1, 1), 1);
        DUE.is("at part 0 too", chart.spans(0), 2);
    }

    private static void span() {
        DUE.promise("promise 11");
        EarChart chart = Due.chart(Due.GAP, 0, 100, 0, Due.GAP, 30, 0);
        int[][] due = {{1, 1, 2}, {2, 2, 3}, {2, 5, 6}};
        for (int k = 0; k < 3; k++) {
            for (int what = 0; what < 3; what++) {
                DUE.is("span " + k + " " + what, chart.span(0, k, what), due[k][what]);
            }
            DUE.is("what 3", chart.span(0, k, 3), -1);
            DUE.is("what -1", chart.span(0, k, -1), -1);
        }
        DUE.is("k 3", chart.span(0, 3, 0), -1);
        DUE.is("k -1", chart.span(0, -1, 0), -1);
        DUE.is("k far", chart.span(0, Integer.MAX_VALUE, 0), -1);
        DUE.is("k far ahead", chart.span(0, Integer.MIN_VALUE, 0), -1);
        DUE.is("an empty row after a full one", chart.span(1, 0, 0), -1);
        for (int row : Due.NO_ROWS) {
            DUE.is("no row", chart.span(row, 0, 0), -1);
        }
    }

    private static void kind() {
        DUE.promise("promise 12");
        EarChart chart = Due.chart(0, 100, 0, Due.GAP, 30, 0, 0);
        int[] due = {1, 2, 0, 0, 2, 1, 0, 0};
        chart.part(0);
        for (int step = 0; step < due.length; step++) {
            DUE.is("step " + step, chart.kind(0, step), due[step]);
        }
        chart = Due.chart(0, 3, 0, 3, 0);
        chart.part(1);
        for (int step = 0; step < 4; step++) {
            DUE.is("each its own span", chart.kind(0, step), 1 + step % 2);
        }
        chart.clear(0);
        Due.fill(chart, 0, 0, 2, -2, 2, -2, 0);
        chart.part(100);
        DUE.is("a rise", chart.kind(0, 0), 1);
        DUE.is("ahead", chart.kind(0, -1), 0);
        DUE.is("the last step", chart.kind(0, 5), 0);
        DUE.is("step 39", chart.kind(0, 39), 0);
        DUE.is("step 40", chart.kind(0, 40), 0);
        DUE.is("far", chart.kind(0, Integer.MAX_VALUE), 0);
        DUE.is("far ahead", chart.kind(0, Integer.MIN_VALUE), 0);
        DUE.is("an empty row after a full one", chart.kind(1, 0), 0);
        for (int row : Due.NO_ROWS) {
            DUE.is("no row", chart.kind(row, 0), 0);
        }
    }

    private static void turns() {
        DUE.promise("promises 13 and 14");
        EarChart chart = Due.chart(0, 100, 40, 90, Due.GAP, 90, 10, 60);
        DUE.is("three turns", chart.turnsOf(0), 3);
        DUE.is("first", chart.turn(0, 0), 1);
        DUE.is("second", chart.turn(0, 1), 2);
        DUE.is("third", chart.turn(0, 2), 6);
        DUE.is("no fourth", chart.turn(0, 3), -1);
        DUE.is("-1", chart.turn(0, -1), -1);
        DUE.is("far", chart.turn(0, Integer.MAX_VALUE), -1);
        Due.fill(chart, 2, 0, 100);
        DUE.is("a row of one span after one of more", chart.turnsOf(2), 0);
        chart.miss(0, 24);
        DUE.is("50 is above 48", chart.turnsOf(0), 3);
        chart.miss(0, 25);
        DUE.is("50 is not above 50", chart.turnsOf(0), 1);
        DUE.is("60 is", chart.turn(0, 0), 1);
        chart.miss(0, 30);
        DUE.is("60 is not above 60", chart.turnsOf(0), 0);
        DUE.is("an empty row", chart.turnsOf(1), 0);
        DUE.is("of an empty row", chart.turn(1, 0), -1);
        for (int row : Due.NO_ROWS) {
            DUE.is("no row", chart.turnsOf(row), -1);
            DUE.is("no row", chart.turn(row, 0), -1);
        }
    }

    private static void turnsNeedRiseAndFall() {
        DUE.promise("promise 13, what meets");
        EarChart chart = Due.chart(0, 50, Due.GAP, 50, 0);
        DUE.is("a gap lies between", chart.turnsOf(0), 0);
        chart = Due.chart(0, 100, 104, 100, 104, 200);
        chart.part(1);
        DUE.is("a small fall is a span of its own", chart.turnsOf(0), 2);
        DUE.is("it begins in a turn", chart.turn(0, 0), 2);
        DUE.is("it ends in a turn", chart.turn(0, 1), 3);
        chart.part(2);
        DUE.is("of like costs the rise goes on", chart.turnsOf(0), 0);
        chart = Due.chart(0, 40, 30, 40, 0);
        chart.part(4);
        DUE.is("the small fall is its own span", chart.turnsOf(0), 3);
        chart.miss(0, 4);
        DUE.is("10 is above 8", chart.turnsOf(0), 3);
        chart.miss(0, 5);
        DUE.is("10 is not above 10, at any of its turns", chart.turnsOf(0), 0);
        chart.part(5);
        DUE.is("of like costs the rise goes on to the last 40", chart.turnsOf(0), 1);
        DUE.is("the last 40", chart.turn(0, 0), 3);
    }

    private static void sure() {
        DUE.promise("promise 15");
        EarChart chart = Due.chart(10, 10, 10, Due.GAP, 10);
        Due.fill(chart, 3, 5, 15, 10, 10);
        DUE.is("above", chart.sure(0, 3, 0), 1);
        DUE.is("turned round", chart.sure(3, 0, 0), -1);
        DUE.is("below", chart.sure(0, 3, 1), -1);
        DUE.is("alike", chart.sure(0, 3, 2), 0);
        DUE.is("a gap", chart.sure(0, 3, 3), -2);
        DUE.is("a gap in the other", chart.sure(3, 0, 3), -2);
        DUE.is("beyond one", chart.sure(0, 3, 4), -2);
        DUE.is("beyond the first", chart.sure(3, 0, 4), -2);
        DUE.is("ahead", chart.sure(0, 3, -1), -2);
        DUE.is("far", chart.sure(0, 3, Integer.MAX_VALUE), -2);
        DUE.is("far ahead", chart.sure(0, 3, Integer.MIN_VALUE), -2);
        DUE.is("itself", chart.sure(0, 0, 0), -2);
        chart.miss(0, 2);
        chart.miss(3, 2);
        DUE.is("5 above 4", chart.sure(0, 3, 0), 1);
        DUE.is("5 below 4", chart.sure(0, 3, 1), -1);
        chart.miss(3, 3);
        DUE.is("5 not above 5", chart.sure(0, 3, 0), 0);
        DUE.is("5 not below 5", chart.sure(0, 3, 1), 0);
        for (int row : Due.NO_ROWS) {
            DUE.is("no row", chart.sure(row, 0, 0), -2);
            DUE.is("no other row", chart.sure(0, row, 0), -2);
        }
        DUE.is("no rows", chart.sure(4, 4, 0), -2);
    }

    private static void crossings() {
        DUE.promise("promises 16 and 17");
        EarChart chart = Due.chart(1, 9, 9, 5, 5, 1, Due.GAP, 9, 1, 5, Due.GAP, 9);
        Due.fill(chart, 2, 5, 5, 5, 5, 5, 5, 5, 5, 5, 5, 5, 5, 5);
        int[] due = {1, 5, 8};
        DUE.is("how many", chart.crossings(0, 2), 3);
        DUE.is("turned round", chart.crossings(2, 0), 3);
        for (int k = 0; k < due.length; k++) {
            DUE.is("crossing " + k, chart.crossing(0, 2, k), due[k]);
            DUE.is("turned round " + k, chart.crossing(2, 0, k), due[k]);
        }
        DUE.is("3", chart.crossing(0, 2, 3), -1);
        DUE.is("-1", chart.crossing(0, 2, -1), -1);
        DUE.is("far", chart.crossing(0, 2, Integer.MAX_VALUE), -1);
        chart.miss(2, 4);
        DUE.is("all unsure", chart.crossings(0, 2), 0);
        chart.miss(2, 3);
        DUE.is("sure again", chart.crossings(0, 2), 3);
        DUE.is("with an empty row", chart.crossings(0, 1), 0);
        DUE.is("with itself", chart.crossings(2, 2), -1);
        DUE.is("with itself", chart.crossing(0, 0, 0), -1);
        for (int row : Due.NO_ROWS) {
            DUE.is("no row", chart.crossings(row, 0), -1);
            DUE.is("no other row", chart.crossings(0, row), -1);
            DUE.is("no row", chart.crossing(row, 0, 0), -1);
            DUE.is("no other row", chart.crossing(0, row, 0), -1);
        }
        EarChart full = new EarChart();
        for (int step = 0; step < 40; step++) {
            full.value(0, step % 2);
            full.value(1, 1 - step % 2);
        }
        DUE.is("at every step but the first", full.crossings(0, 1), 39);
        DUE.is("the last one", full.crossing(0, 1, 38), 39);
    }
}
