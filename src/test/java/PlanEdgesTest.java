/** The boundary cases of promises 25 to 29, each in a test of its own on new objects. */
final class PlanEdgesTest {
    private static final Due DUE = new Due();
    private static final int G = Due.GAP;

    public static void main(String[] args) {
        wholeNumbers();
        wholeOfOneSpan();
        wholeOfAsManyBeatsAsSpans();
        wholeByRests();
        wholeOfManySpans();
        wholeWithoutSpans();
        wholeOfAShortRowBehindALongOne();
        wholeAddsUp();
        walksAtEnds();
        walksRefused();
        wheres();
        goesAtEnds();
        goesAlongARowThatGrows();
        seeksWithoutAWalk();
        seeksNoSuch();
        seeksTurns();
        seeksCrossings();
        seeksGaps();
        seeksDoNotWrapAround();
        DUE.end();
    }

    private static void beats(EarChart chart, int beats, int... due) {
        for (int k = 0; k < due.length; k++) {
            DUE.is("SPAN " + k + " in " + beats, chart.whole(0, beats, k), due[k]);
        }
        DUE.is("one more in " + beats, chart.whole(0, beats, due.length), -1);
        DUE.is("one ahead in " + beats, chart.whole(0, beats, -1), -1);
    }

    private static EarChart walked(int step, int... values) {
        EarChart chart = Due.chart(values);
        chart.walk(0, step);
        return chart;
    }

    // ---- promise 25

    private static void wholeNumbers() {
        DUE.promise("promise 25, a number of BEATS that can't be");
        for (int beats : new int[] {0, -1, 201, Integer.MIN_VALUE, Integer.MAX_VALUE}) {
            DUE.is("whole(0, " + beats + ", 0)", Due.chart(0, 50).whole(0, beats, 0), -1);
        }
        DUE.promise("promise 25, no such SPAN");
        for (int k : new int[] {-1, 1, 39, 40, Integer.MIN_VALUE, Integer.MAX_VALUE}) {
            DUE.is("whole(0, 9, " + k + ")", Due.chart(0, 50).whole(0, 9, k), -1);
        }
        DUE.promise("promise 25, no such ROW");
        for (int row : Due.NO_ROWS) {
            DUE.is("whole(" + row + ", 9, 0)", Due.chart(0, 50).whole(row, 9, 0), -1);
        }
    }

    private static void wholeOfOneSpan() {
        DUE.promise("promise 25, one SPAN gets all BEATS");
        beats(Due.chart(0, 50), 1, 1);
        beats(Due.chart(0, 50), 2, 2);
        beats(Due.chart(0, 50), 199, 199);
        beats(Due.chart(0, 50), 200, 200);
        beats(Due.chart(0, 1, 2, 3, 4, 5, 6), 200, 200);
    }

    private static void wholeOfAsManyBeatsAsSpans() {
        DUE.promise("promise 25, as many BEATS as SPANS, one fewer, one more");
        EarChart chart = Due.chart(0, 50, 0, 20, 40, 60);
        DUE.is("SPANS", chart.spans(0), 3);
        beats(chart, 3, 1, 1, 1);
        DUE.is("fewer, the first", chart.whole(0, 2, 0), -1);
        DUE.is("fewer, the second", chart.whole(0, 2, 1), -1);
        DUE.is("fewer, the last", chart.whole(0, 2, 2), -1);
        beats(chart, 4, 1, 1, 2);
    }

    private static void wholeByRests() {
        DUE.promise("promise 25, of like rests the first");
        EarChart alike = Due.chart(0, 50, 0, 50);
        beats(alike, 3, 1, 1, 1);
        beats(alike, 4, 2, 1, 1);
        beats(alike, 5, 2, 2, 1);
        beats(alike, 6, 2, 2, 2);
        DUE.promise("promise 25, the greatest rests");
        EarChart unlike = Due.chart(0, 50, 0, 10, 20, 30, 40);
        beats(unlike, 4, 1, 1, 2);
        beats(unlike, 5, 2, 1, 2);
        beats(unlike, 6, 2, 1, 3);
        beats(unlike, 7, 2, 2, 3);
        beats(unlike, 8, 2, 2, 4);
        DUE.promise("promise 25, SPANS of all PIECES");
        EarChart pieces = Due.chart(0, 50, G, 9, G, 0, 10, 20, 30);
        beats(pieces, 2, 1, 1);
        beats(pieces, 6, 2, 4);
        beats(pieces, 7, 2, 5);
    }

    private static void wholeOfManySpans() {
        DUE.promise("promise 25, as many SPANS as can be");
        EarChart chart = Due.chart(Due.zigzag(0, 100));
        DUE.is("38 BEATS", chart.whole(0, 38, 0), -1);
        for (int k = 0; k < 39; k++) {
            DUE.is("39 BEATS, SPAN " + k, chart.whole(0, 39, k), 1);
            DUE.is("40 BEATS, SPAN " + k, chart.whole(0, 40, k), k == 0 ? 2 : 1);
            DUE.is("77 BEATS, SPAN " + k, chart.whole(0, 77, k), k == 38 ? 1 : 2);
            DUE.is("200 BEATS, SPAN " + k, chart.whole(0, 200, k), k < 5 ? 6 : 5);
        }
        DUE.is("200 BEATS, one more", chart.whole(0, 200, 39), -1);
    }

    private static void wholeWithoutSpans() {
        DUE.promise("promise 25, no SPAN");
        int[][] rows = {{}, {5}, {G}, {5, G, 5}};
        for (int[] row : rows) {
            for (int beats : new int[] {1, 200}) {
                DUE.is("whole(0, " + beats + ", 0)", Due.chart(row).whole(0, beats, 0), -1);
            }
        }
    }

    private static void wholeOfAShortRowBehindALongOne() {
        DUE.promise("promise 25, a short ROW asked behind a long one");
        EarChart chart = Due.chart(0, 50, 100, 0);
        Due.fill(chart, 1, Due.zigzag(0, 100));
        int[][] due = {{1, 1}, {2, 1}, {2, 2}, {3, 2}, {4, 2}, {4, 3}, {133, 67}};
        for (int[] both : due) {
            chart.whole(1, 200, 0);
            beats(chart, both[0] + both[1], both);
        }
    }

    private static void wholeAddsUp() {
        DUE.promise("promise 25, all BEATS are told");
        for (int beats = 4; beats <= 200; beats++) {
            EarChart chart = Due.chart(0, 50, 90, 10, 0, 50, G, 60, 55, 50, 45, 40, 0);
            int sum = 0;
            for (int k = 0; k < 4; k++) {
                sum += chart.whole(0, beats, k);
            }
            DUE.is("the sum", sum, beats);
        }
    }

    // ---- promises 26 and 27

    private static void walksAtEnds() {
        DUE.promise("promise 26, the first and the last STEP");
        EarChart chart = Due.chart(Due.zigzag(0, 1));
        DUE.is("0", chart.walk(0, 0), true);
        DUE.is("where", chart.where(1), 0);
        DUE.is("39", chart.walk(0, 39), true);
        DUE.is("where", chart.where(1), 39);
        DUE.promise("promise 26, a GAP");
        EarChart gap = Due.chart(G);
        DUE.is("walk", gap.walk(0, 0), true);
        DUE.is("where", gap.where(1), 0);
        DUE.promise("promise 26, another WALK takes the place of the one before");
        Due.fill(chart, 3, 1, 2);
        DUE.is("walk", chart.walk(3, 1), true);
        DUE.is("row", chart.where(0), 3);
        DUE.is("step", chart.where(1), 1);
        chart.clear(0);
        DUE.is("the ROW before is of no more account", chart.where(0), 3);
    }

    private static void walksRefused() {
        DUE.promise("promise 26, no such STEP");
        for (int step : new int[] {-1, 2, 3, 39, 40, Integer.MIN_VALUE, Integer.MAX_VALUE}) {
            EarChart chart = Due.chart(1, 2);
            DUE.is("walk(0, " + step + ")", chart.walk(0, step), false);
            DUE.is("no WALK", chart.where(0), -1);
            chart.walk(0, 1);
            DUE.is("walk(0, " + step + ") in a WALK", chart.walk(0, step), false);
            DUE.is("it is where it was", chart.where(1), 1);
        }
        DUE.promise("promise 26, an empty ROW");
        EarChart chart = walked(1, 1, 2);
        for (int row = 1; row < 4; row++) {
            DUE.is("walk(" + row + ", 0)", chart.walk(row, 0), false);
            DUE.is("it is where it was", chart.where(0), 0);
        }
        DUE.promise("promise 26, no such ROW");
        for (int row : Due.NO_ROWS) {
            DUE.is("walk(" + row + ", 0)", chart.walk(row, 0), false);
            DUE.is("its ROW", chart.where(0), 0);
            DUE.is("its STEP", chart.where(1), 1);
        }
        DUE.promise("promise 26, a STEP that the ROW had ahead of clear");
        chart.clear(0);
        chart.value(0, 1);
        DUE.is("walk(0, 1)", chart.walk(0, 1), false);
        DUE.is("walk(0, 0)", chart.walk(0, 0), true);
    }

    private static void wheres() {
        int[] others = {-1, 2, 3, Integer.MIN_VALUE, Integer.MAX_VALUE};
        DUE.promise("promise 27, without a WALK");
        for (int what = 0; what < 2; what++) {
            DUE.is("where(" + what + ")", Due.chart(1).where(what), -1);
        }
        DUE.promise("promise 27, others");
        for (int what : others) {
            DUE.is("where(" + what + ")", walked(0, 1).where(what), -1);
            DUE.is("where(" + what + ") without a WALK", Due.chart(1).where(what), -1);
        }
        DUE.promise("promise 27, it is asked and stays");
        EarChart chart = walked(1, 1, 2);
        DUE.is("first", chart.where(1), 1);
        DUE.is("again", chart.where(1), 1);
    }

    // ---- promise 28

    private static void goesAtEnds() {
        DUE.promise("promise 28, without a WALK");
        DUE.is("on", Due.chart(1, 2).go(true), -1);
        DUE.is("back", Due.chart(1, 2).go(false), -1);
        DUE.promise("promise 28, one STEP: both ends at once");
        EarChart one = walked(0, 5);
        DUE.is("on", one.go(true), -1);
        DUE.is("back", one.go(false), -1);
        DUE.is("it stays", one.where(1), 0);
        DUE.promise("promise 28, the ends of a full ROW");
        EarChart full = walked(38, Due.zigzag(0, G));
        DUE.is("on to 39", full.go(true), 39);
        DUE.is("on from 39", full.go(true), -1);
        DUE.is("it stays", full.where(1), 39);
        DUE.is("back to 38", full.go(false), 38);
        full.walk(0, 1);
        DUE.is("back to 0", full.go(false), 0);
        DUE.is("back from 0", full.go(false), -1);
        DUE.is("it stays", full.where(1), 0);
        DUE.is("on to a GAP", full.go(true), 1);
    }

    private static void goesAlongARowThatGrows() {
        DUE.promise("promise 28, the end of a ROW that grows");
        EarChart chart = walked(0, 1);
        Due.fill(chart, 1, 1, 2, 3);
        DUE.is("at the end", chart.go(true), -1);
        chart.gap(0);
        DUE.is("a STEP more", chart.go(true), 1);
        DUE.is("another ROW is longer", chart.go(true), -1);
        DUE.promise("promise 28, the WALK is over");
        chart.clear(0);
        DUE.is("on", chart.go(true), -1);
        DUE.is("back", chart.go(false), -1);
        Due.fill(chart, 0, 1, 2, 3);
        DUE.is("on, along STEPS that came later", chart.go(true), -1);
    }

    // ---- promise 29

    private static void seeksWithoutAWalk() {
        DUE.promise("promise 29, without a WALK");
        EarChart chart = Due.chart(0, 50, 0, G, 50, 0, 50);
        Due.fill(chart, 1, 9, 9, 9, 9, 9);
        for (int what = 0; what < 3; what++) {
            DUE.is("on to " + what, chart.seek(true, what), -1);
            DUE.is("back to " + what, chart.seek(false, what), -1);
            DUE.is("there is none by it", chart.where(0), -1);
        }
    }

    private static void seeksNoSuch() {
        DUE.promise("promise 29, others");
        EarChart chart = walked(2, 0, 50, 0, G, 0, 50, 0);
        for (int what : new int[] {-1, 3, 4, Integer.MIN_VALUE, Integer.MAX_VALUE}) {
            DUE.is("on to " + what, chart.seek(true, what), -1);
            DUE.is("back to " + what, chart.seek(false, what), -1);
            DUE.is("it stays", chart.where(1), 2);
        }
        DUE.promise("promise 29, there is none");
        EarChart bare = walked(1, 1, 2, 3);
        for (int what = 0; what < 3; what++) {
            DUE.is("on to " + what, bare.seek(true, what), -1);
            DUE.is("back to " + what, bare.seek(false, what), -1);
            DUE.is("it stays", bare.where(1), 1);
        }
        DUE.promise("promise 29, one STEP");
        EarChart gap = walked(0, G);
        DUE.is("the GAP where it is, on", gap.seek(true, 2), -1);
        DUE.is("the GAP where it is, back", gap.seek(false, 2), -1);
    }

    private static void seeksTurns() {
        DUE.promise("promise 29, the first and the last TURN of a full ROW");
        EarChart chart = walked(0, Due.zigzag(0, 100));
        DUE.is("on", chart.seek(true, 0), 1);
        DUE.is("none ahead of it", chart.seek(false, 0), -1);
        chart.walk(0, 37);
        DUE.is("the last", chart.seek(true, 0), 38);
        DUE.is("none behind it", chart.seek(true, 0), -1);
        chart.walk(0, 39);
        DUE.is("back", chart.seek(false, 0), 38);
        DUE.is("back once more", chart.seek(false, 0), 37);
        DUE.promise("promise 29, TURNS as they are by now");
        chart.part(10000);
        DUE.is("none", chart.seek(false, 0), -1);
        chart.part(10);
        chart.miss(0, 50);
        DUE.is("none by MISS", chart.seek(false, 0), -1);
        chart.miss(0, 49);
        DUE.is("one", chart.seek(false, 0), 36);
        DUE.promise("promise 29, a TURN of another ROW");
        EarChart other = walked(0, 0, 1, 2);
        Due.fill(other, 1, 500, 900, 500);
        DUE.is("none", other.seek(true, 0), -1);
    }

    private static void seeksCrossings() {
        DUE.promise("promise 29, a CROSSING with any other ROW");
        for (int row = 0; row < 4; row++) {
            for (int other = 0; other < 4; other++) {
                if (row != other) {
                    seekCrossing(row, other);
                }
            }
        }
        DUE.promise("promise 29, a CROSSING of two other ROWS");
        EarChart chart = walked(0, 500, 500, 500);
        Due.fill(chart, 1, 1, 9, 1);
        Due.fill(chart, 2, 5, 5, 5);
        DUE.is("none", chart.seek(true, 1), -1);
        DUE.is("it stays", chart.where(1), 0);
        DUE.promise("promise 29, CROSSINGS at one STEP");
        EarChart both = walked(0, 5, 5, 5);
        Due.fill(both, 1, 1, 9, 9);
        Due.fill(both, 2, 9, 1, 9);
        DUE.is("both", both.seek(true, 1), 1);
        DUE.is("one of them again", both.seek(true, 1), 2);
        DUE.is("no more", both.seek(true, 1), -1);
        DUE.promise("promise 29, CROSSINGS at the ends of full ROWS");
        EarChart full = walked(38, Due.zigzag(0, 9));
        Due.fill(full, 3, Due.zigzag(9, 0));
        DUE.is("the last", full.seek(true, 1), 39);
        DUE.is("none behind it", full.seek(true, 1), -1);
        full.walk(0, 2);
        DUE.is("the first", full.seek(false, 1), 1);
        DUE.is("none ahead of it", full.seek(false, 1), -1);
    }

    private static void seekCrossing(int row, int other) {
        EarChart chart = new EarChart();
        Due.fill(chart, row, 1, 5, 9, 9);
        Due.fill(chart, other, 5, 5, 5, 5);
        chart.walk(row, 0);
        DUE.is(row + " with " + other, chart.seek(true, 1), 2);
        DUE.is(row + " with " + other + ", no more", chart.seek(true, 1), -1);
        chart.walk(row, 3);
        DUE.is(row + " with " + other + ", back", chart.seek(false, 1), 2);
    }

    private static void seeksGaps() {
        DUE.promise("promise 29, GAPS at the ends");
        EarChart chart = walked(1, G, 1, G);
        DUE.is("on", chart.seek(true, 2), 2);
        DUE.is("the end of the ROW is no GAP", chart.seek(true, 2), -1);
        DUE.is("back", chart.seek(false, 2), 0);
        DUE.is("none ahead of 0", chart.seek(false, 2), -1);
        DUE.promise("promise 29, GAPS of a full ROW");
        EarChart full = walked(38, Due.zigzag(G, G));
        DUE.is("39", full.seek(true, 2), 39);
        DUE.is("none behind it", full.seek(true, 2), -1);
        DUE.is("38", full.seek(false, 2), 38);
        DUE.promise("promise 29, a GAP that has a VALUE by now");
        full.put(0, 37, 5);
        DUE.is("36", full.seek(false, 2), 36);
        DUE.promise("promise 29, a GAP of another ROW");
        EarChart other = walked(0, 1, 2, 3);
        Due.fill(other, 1, G, G, G);
        DUE.is("none", other.seek(true, 2), -1);
        DUE.promise("promise 29, STEPS that the ROW had ahead of clear");
        EarChart old = Due.chart(G, G, G);
        old.clear(0);
        old.value(0, 1);
        old.walk(0, 0);
        DUE.is("none", old.seek(true, 2), -1);
    }

    private static void seeksDoNotWrapAround() {
        DUE.promise("promises 28 and 29, no wrap-around");
        EarChart chart = walked(5, 0, 50, 0, G, 1, 2);
        Due.fill(chart, 1, 9, 9, 9, 9, 9, 9);
        for (int what = 0; what < 3; what++) {
            DUE.is("on to " + what, chart.seek(true, what), -1);
            DUE.is("it stays", chart.where(1), 5);
        }
        DUE.is("on", chart.go(true), -1);
        chart.walk(0, 0);
        for (int what = 0; what < 3; what++) {
            DUE.is("back to " + what, chart.seek(false, what), -1);
            DUE.is("it stays", chart.where(1), 0);
        }
        DUE.is("back", chart.go(false), -1);
    }
}
