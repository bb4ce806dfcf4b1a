/** The boundary cases of promises 9 to 17, each in a test of its own on new objects. */
final class ShapeEdgesTest {
    private static final Due DUE = new Due();
    private static final int G = Due.GAP;

    public static void main(String[] args) {
        rowsWithoutWays();
        piecesAndGaps();
        leastAndGreatestPart();
        costsThatMeet();
        likeCosts();
        shortRowBehindALongOne();
        spanNumbers();
        kindsAtEnds();
        turnsByMiss();
        turnsByTheEndsOfSpans();
        turnsAtEnds();
        sureByMiss();
        everyPair();
        sureWithoutValues();
        crossingsOverUnsureSteps();
        crossingsOverGaps();
        crossingsAtEnds();
        crossingNumbers();
        DUE.end();
    }

    private static void shape(String name, EarChart chart, int cost, int... kinds) {
        for (int step = 0; step < kinds.length; step++) {
            DUE.is(name + ", KIND at " + step, chart.kind(0, step), kinds[step]);
        }
        DUE.is(name + ", KIND behind the last WAY", chart.kind(0, kinds.length), 0);
        DUE.is(name + ", cost", chart.cost(0), cost);
    }

    // ---- promises 9 and 10

    private static void rowsWithoutWays() {
        DUE.promise("promises 9 and 10, no WAY");
        int[][] rows = {{}, {5}, {G}, {G, G}, {5, G}, {G, 5}, {5, G, 5}, Due.zigzag(5, G), Due.zigzag(G, G)};
        for (int[] row : rows) {
            EarChart chart = Due.chart(row);
            DUE.is("spans", chart.spans(0), 0);
            DUE.is("cost", chart.cost(0), 0);
            DUE.is("span", chart.span(0, 0, 0), -1);
            DUE.is("kind", chart.kind(0, 0), 0);
            DUE.is("turnsOf", chart.turnsOf(0), 0);
            DUE.is("turn", chart.turn(0, 0), -1);
        }
        DUE.promise("promises 9 and 10, no such ROW");
        for (int row : Due.NO_ROWS) {
            DUE.is("spans(" + row + ")", Due.chart(1, 2).spans(row), -1);
            DUE.is("cost(" + row + ")", Due.chart(1, 2).cost(row), -1);
        }
    }

    private static void piecesAndGaps() {
        DUE.promise("promise 9, PIECES");
        shape("of two", Due.chart(1, 2), 10, 1);
        shape("of two, falling", Due.chart(2, 1), 10, 2);
        shape("GAPS at both ends", Due.chart(G, 1, 2, G), 10, 0, 1, 0);
        shape("GAPS side by side", Due.chart(1, 2, G, G, 2, 3), 20, 1, 0, 0, 0, 1);
        shape("one VALUE between GAPS", Due.chart(1, 2, G, 7, G, 2, 1), 20, 1, 0, 0, 0, 0, 2);
        EarChart alike = Due.chart(1, 2, G, 3, 4);
        DUE.is("like KINDS in two PIECES are two SPANS", alike.spans(0), 2);
        DUE.is("the second one", alike.span(0, 1, 1), 3);
        EarChart many = new EarChart();
        for (int step = 0; step < 40; step++) {
            Due.fill(many, 0, step % 3 == 2 ? G : step);
        }
        DUE.is("13 PIECES of two, and one VALUE", many.spans(0), 13);
        DUE.is("13 PARTS", many.cost(0), 130);
        DUE.is("the last one", many.span(0, 12, 2), 37);
        EarChart whole = new EarChart();
        for (int step = 0; step < 40; step++) {
            whole.value(0, 50 * step - 1000);
        }
        DUE.is("a PIECE of 40", whole.spans(0), 1);
        DUE.is("its first STEP", whole.span(0, 0, 1), 0);
        DUE.is("its last STEP", whole.span(0, 0, 2), 39);
    }

    private static void leastAndGreatestPart() {
        DUE.promise("promises 9 and 10, PART of 0");
        EarChart chart = Due.chart(Due.zigzag(-1000, 1000));
        chart.part(0);
        DUE.is("spans", chart.spans(0), 39);
        DUE.is("cost", chart.cost(0), 0);
        DUE.is("the last SPAN", chart.span(0, 38, 2), 39);
        DUE.promise("promises 9 and 10, PART of 10000");
        chart.part(10000);
        DUE.is("spans", chart.spans(0), 1);
        DUE.is("cost", chart.cost(0), 10000 + 19 * 2000);
        DUE.promise("promises 9 and 10, the greatest cost of SPANS");
        EarChart pieces = new EarChart();
        pieces.part(10000);
        for (int step = 0; step < 40; step++) {
            Due.fill(pieces, 0, step % 3 == 2 ? G : 0);
        }
        DUE.is("13 PIECES", pieces.cost(0), 130000);
    }

    private static void costsThatMeet() {
        DUE.promise("promise 9, PART against what it spares");
        EarChart peak = Due.chart(0, 10, 0);
        peak.part(9);
        shape("peak, PART less", peak, 18, 1, 2);
        peak.part(10);
        shape("peak, PART alike: the lesser KIND", peak, 20, 1, 1);
        peak.part(11);
        shape("peak, PART more", peak, 21, 1, 1);
        EarChart valley = Due.chart(10, 0, 10);
        valley.part(9);
        shape("valley, PART less", valley, 18, 2, 1);
        valley.part(10);
        shape("valley, PART alike: the lesser KIND", valley, 20, 1, 1);
        EarChart dip = Due.chart(0, 50, 45, 95);
        dip.part(2);
        shape("dip, two PARTS less", dip, 6, 1, 2, 1);
        dip.part(3);
        shape("dip, two PARTS more", dip, 8, 1, 1, 1);
        EarChart bump = Due.chart(95, 45, 51, 0);
        bump.part(2);
        shape("bump, two PARTS less", bump, 6, 2, 1, 2);
        bump.part(3);
        shape("bump, two PARTS alike: the lesser KIND", bump, 9, 2, 1, 2);
        bump.part(4);
        shape("bump, two PARTS more", bump, 10, 2, 2, 2);
    }

    private static void likeCosts() {
        DUE.promise("promise 9, of several the first");
        shape("nothing moves", Due.chart(5, 5), 10, 1);
        EarChart free = Due.chart(5, 5, 5);
        free.part(0);
        shape("nothing moves, PART of 0", free, 0, 1, 1);
        shape("still ahead of a fall", Due.chart(50, 50, 0), 10, 2, 2);
        shape("still behind a fall", Due.chart(50, 0, 0), 10, 2, 2);
        shape("still between rise and fall", Due.chart(0, 50, 50, 0), 20, 1, 1, 2);
        shape("still between fall and rise", Due.chart(50, 0, 0, 50), 20, 2, 1, 1);
        shape("still between falls", Due.chart(50, 20, 20, 0), 10, 2, 2, 2);
        EarChart cheap = Due.chart(50, 20, 20, 0);
        cheap.part(0);
        shape("still between falls, PART of 0: a rise", cheap, 0, 2, 1, 2);
        shape("a fall that costs as much as a PART", Due.chart(0, 50, 40), 20, 1, 1);
        shape("by one more than a PART", Due.chart(0, 50, 39), 20, 1, 2);
    }

    private static void shortRowBehindALongOne() {
        DUE.promise("promises 9 to 14, a short ROW asked behind a long one");
        EarChart chart = Due.chart(0, 50, 0, G, 70);
        Due.fill(chart, 1, Due.zigzag(0, 100));
        DUE.is("the long one, SPANS", chart.spans(1), 39);
        DUE.is("SPANS", chart.spans(0), 2);
        chart.turnsOf(1);
        DUE.is("TURNS", chart.turnsOf(0), 1);
        chart.cost(1);
        DUE.is("cost", chart.cost(0), 20);
        chart.span(1, 2, 0);
        DUE.is("a third SPAN", chart.span(0, 2, 0), -1);
        chart.turn(1, 1);
        DUE.is("a second TURN", chart.turn(0, 1), -1);
        chart.kind(1, 2);
        DUE.is("a third WAY", chart.kind(0, 2), 0);
        chart.part(10000);
        chart.cost(1);
        DUE.is("cost, PART of 10000", chart.cost(0), 10050);
    }

    // ---- promises 11 and 12

    private static void spanNumbers() {
        DUE.promise("promise 11, the last SPAN and one more");
        EarChart chart = Due.chart(Due.zigzag(0, 100));
        for (int k = 0; k < 39; k++) {
            DUE.is("KIND of " + k, chart.span(0, k, 0), 1 + k % 2);
            DUE.is("first STEP of " + k, chart.span(0, k, 1), k);
            DUE.is("last STEP of " + k, chart.span(0, k, 2), k + 1);
        }
        for (int k : new int[] {-1, 39, 40, Integer.MIN_VALUE, Integer.MAX_VALUE}) {
            for (int what = 0; what < 3; what++) {
                DUE.is("span(0, " + k + ", " + what + ")", chart.span(0, k, what), -1);
            }
        }
        DUE.promise("promise 11, others");
        for (int what : new int[] {-1, 3, Integer.MIN_VALUE, Integer.MAX_VALUE}) {
            DUE.is("span(0, 0, " + what + ")", chart.span(0, 0, what), -1);
        }
        DUE.promise("promise 11, no such ROW");
        for (int row : Due.NO_ROWS) {
            DUE.is("span(" + row + ", 0, 0)", chart.span(row, 0, 0), -1);
        }
        DUE.promise("promise 11, a SPAN that is no more");
        chart.part(10000);
        DUE.is("k of 1", chart.span(0, 1, 0), -1);
        DUE.is("k of 0", chart.span(0, 0, 2), 39);
    }

    private static void kindsAtEnds() {
        DUE.promise("promise 12, no such WAY");
        EarChart chart = Due.chart(1, 2, G, 2, 1);
        DUE.is("to a GAP", chart.kind(0, 1), 0);
        DUE.is("from a GAP", chart.kind(0, 2), 0);
        DUE.is("behind a GAP", chart.kind(0, 3), 2);
        DUE.is("from the last STEP", chart.kind(0, 4), 0);
        DUE.is("from none", chart.kind(0, 5), 0);
        EarChart full = Due.chart(Due.zigzag(0, 100));
        DUE.is("from STEP 38", full.kind(0, 38), 1);
        DUE.is("from STEP 39", full.kind(0, 39), 0);
        for (int step : Due.NO_STEPS) {
            DUE.is("kind(0, " + step + ")", full.kind(0, step), 0);
        }
        DUE.promise("promise 12, no such ROW");
        for (int row : Due.NO_ROWS) {
            DUE.is("kind(" + row + ", 0)", full.kind(row, 0), 0);
        }
        DUE.promise("promise 12, an empty ROW");
        DUE.is("kind(1, 0)", full.kind(1, 0), 0);
        DUE.promise("promise 12, WAYS that are no more");
        full.clear(0);
        DUE.is("a cleared ROW", full.kind(0, 0), 0);
        Due.fill(full, 0, 2, 1);
        DUE.is("a new WAY", full.kind(0, 0), 2);
        DUE.is("an old WAY", full.kind(0, 1), 0);
    }

    // ---- promises 13 and 14

    private static void turnsByMiss() {
        DUE.promise("promise 13, more than 2 MISS from both ends");
        int[][] rows = {{0, 60, 20}, {20, 60, 0}, {60, 0, 40}, {40, 0, 60}};
        for (int[] row : rows) {
            EarChart chart = Due.chart(row);
            chart.miss(0, 19);
            DUE.is("40 and 60 with 38", chart.turnsOf(0), 1);
            DUE.is("the STEP", chart.turn(0, 0), 1);
            chart.miss(0, 20);
            DUE.is("40 and 60 with 40", chart.turnsOf(0), 0);
            DUE.is("no STEP", chart.turn(0, 0), -1);
        }
        DUE.promise("promise 13, the greatest MISS");
        EarChart wide = Due.chart(-1000, -599, -1000);
        wide.miss(0, 200);
        DUE.is("401 with 400", wide.turnsOf(0), 1);
        wide.put(0, 1, -600);
        DUE.is("400 with 400", wide.turnsOf(0), 0);
        DUE.promise("promise 13, the MISS of another ROW");
        wide.miss(0, 0);
        wide.miss(1, 200);
        DUE.is("400 with 0", wide.turnsOf(0), 1);
        DUE.promise("promise 13, the least difference");
        EarChart least = Due.chart(0, 1, 0);
        least.part(0);
        DUE.is("1 with 0", least.turnsOf(0), 1);
        DUE.promise("promise 13, no difference");
        EarChart none = Due.chart(50, 20, 20, 0);
        none.part(0);
        DUE.is("a rise of 0 between falls", none.turnsOf(0), 0);
    }

    private static void turnsByTheEndsOfSpans() {
        DUE.promise("promise 13, the ends of SPANS, not the STEPS beside");
        EarChart chart = Due.chart(0, 29, 30, 29, 0);
        chart.miss(0, 14);
        DUE.is("1 beside, 30 at the ends", chart.turnsOf(0), 1);
        DUE.is("the STEP", chart.turn(0, 0), 2);
        chart.miss(0, 15);
        DUE.is("30 with 30", chart.turnsOf(0), 0);
        DUE.promise("promise 13, an end that is no outermost VALUE");
        EarChart back = Due.chart(0, 60, 55, 30, 36);
        back.miss(0, 12);
        DUE.is("60 less 36 with 24", back.turnsOf(0), 0);
        back.miss(0, 11);
        DUE.is("60 less 36 with 22", back.turnsOf(0), 1);
    }

    private static void turnsAtEnds() {
        DUE.promise("promise 13, the ends of a ROW and of a PIECE");
        DUE.is("a rise alone", Due.chart(0, 50).turnsOf(0), 0);
        DUE.is("a GAP between", Due.chart(0, 50, G, 50, 0).turnsOf(0), 0);
        DUE.is("a VALUE alone between", Due.chart(0, 50, G, 90, G, 50, 0).turnsOf(0), 0);
        EarChart second = Due.chart(0, 50, G, 50, 0, 50);
        DUE.is("in the second PIECE alone", second.turnsOf(0), 1);
        DUE.is("its STEP", second.turn(0, 0), 4);
        DUE.promise("promises 13 and 14, as many as can be");
        EarChart full = Due.chart(Due.zigzag(0, 100));
        DUE.is("how many", full.turnsOf(0), 38);
        DUE.is("the first", full.turn(0, 0), 1);
        DUE.is("the last", full.turn(0, 37), 38);
        DUE.promise("promise 14, no such TURN");
        for (int k : new int[] {-1, 38, 39, 40, Integer.MIN_VALUE, Integer.MAX_VALUE}) {
            DUE.is("turn(0, " + k + ")", full.turn(0, k), -1);
        }
        DUE.promise("promises 13 and 14, no such ROW");
        for (int row : Due.NO_ROWS) {
            DUE.is("turnsOf(" + row + ")", full.turnsOf(row), -1);
            DUE.is("turn(" + row + ", 0)", full.turn(row, 0), -1);
        }
        DUE.promise("promises 13 and 14, an empty ROW");
        DUE.is("turnsOf(1)", full.turnsOf(1), 0);
        DUE.is("turn(1, 0)", full.turn(1, 0), -1);
    }

    // ---- promise 15

    private static EarChart pair(int[] a, int... b) {
        EarChart chart = Due.chart(a);
        Due.fill(chart, 1, b);
        return chart;
    }

    private static int[] row(int... values) {
        return values;
    }

    private static void sureByMiss() {
        DUE.promise("promise 15, above the sum of both MISSES");
        EarChart chart = pair(row(9, -9), 0, 0);
        chart.miss(0, 8);
        DUE.is("9 with 8 and 0", chart.sure(0, 1, 0), 1);
        DUE.is("-9 with 8 and 0", chart.sure(0, 1, 1), -1);
        chart.miss(1, 1);
        DUE.is("9 with 8 and 1", chart.sure(0, 1, 0), 0);
        DUE.is("-9 with 8 and 1", chart.sure(0, 1, 1), 0);
        DUE.is("turned round, 9", chart.sure(1, 0, 0), 0);
        DUE.promise("promise 15, without MISSES");
        EarChart exact = pair(row(0, 1, -1), 0, 0, 0);
        DUE.is("alike", exact.sure(0, 1, 0), 0);
        DUE.is("1 above", exact.sure(0, 1, 1), 1);
        DUE.is("1 below", exact.sure(0, 1, 2), -1);
        DUE.promise("promise 15, the greatest MISSES");
        EarChart wide = pair(row(1000, 1000, 1000), 600, 599, -1000);
        wide.miss(0, 200);
        wide.miss(1, 200);
        DUE.is("400", wide.sure(0, 1, 0), 0);
        DUE.is("401", wide.sure(0, 1, 1), 1);
        DUE.is("401, turned round", wide.sure(1, 0, 1), -1);
        DUE.is("2000", wide.sure(0, 1, 2), 1);
    }

    private static void everyPair() {
        DUE.promise("promises 15 to 17, every two ROWS");
        EarChart chart = new EarChart();
        for (int row = 0; row < 4; row++) {
            Due.fill(chart, row, row, -row);
        }
        for (int a = 0; a < 4; a++) {
            for (int b = 0; b < 4; b++) {
                DUE.is("sure(" + a + ", " + b + ", 0)", chart.sure(a, b, 0), a == b ? -2 : Integer.compare(a, b));
                DUE.is("crossings(" + a + ", " + b + ")", chart.crossings(a, b), a == b ? -1 : 1);
                DUE.is("crossing(" + a + ", " + b + ", 0)", chart.crossing(a, b, 0), a == b ? -1 : 1);
            }
        }
    }

    private static void sureWithoutValues() {
        DUE.promise("promise 15, a GAP in one, or beyond it");
        EarChart chart = pair(row(9, G, 9, G, 9), 1, 1, G, G);
        int[] due = {1, -2, -2, -2, -2, -2};
        for (int step = 0; step < due.length; step++) {
            DUE.is("sure(0, 1, " + step + ")", chart.sure(0, 1, step), due[step]);
            DUE.is("sure(1, 0, " + step + ")", chart.sure(1, 0, step), step == 0 ? -1 : -2);
        }
        DUE.promise("promise 15, no such STEP");
        EarChart full = pair(Due.zigzag(1, 2), Due.zigzag(2, 1));
        DUE.is("the last one", full.sure(0, 1, 39), 1);
        for (int step : Due.NO_STEPS) {
            DUE.is("sure(0, 1, " + step + ")", full.sure(0, 1, step), -2);
        }
        DUE.promise("promise 15, an empty ROW");
        DUE.is("sure(0, 2, 0)", full.sure(0, 2, 0), -2);
        DUE.is("sure(2, 0, 0)", full.sure(2, 0, 0), -2);
        DUE.promise("promise 15, a ROW and itself");
        for (int row = 0; row < 4; row++) {
            DUE.is("sure of " + row + " twice", full.sure(row, row, 0), -2);
        }
        DUE.promise("promise 15, no such ROWS");
        for (int row : Due.NO_ROWS) {
            DUE.is("sure(0, " + row + ", 0)", full.sure(0, row, 0), -2);
            DUE.is("sure(" + row + ", 0, 0)", full.sure(row, 0, 0), -2);
            DUE.is("sure(" + row + ", " + row + ", 0)", full.sure(row, row, 0), -2);
        }
    }

    // ---- promises 16 and 17

    private static void crossed(String name, EarChart chart, int... due) {
        DUE.is(name + ", how many", chart.crossings(0, 1), due.length);
        DUE.is(name + ", turned round", chart.crossings(1, 0), due.length);
        for (int k = 0; k < due.length; k++) {
            DUE.is(name + ", crossing " + k, chart.crossing(0, 1, k), due[k]);
            DUE.is(name + ", turned round, crossing " + k, chart.crossing(1, 0, k), due[k]);
        }
        DUE.is(name + ", one more", chart.crossing(0, 1, due.length), -1);
    }

    private static void crossingsOverUnsureSteps() {
        DUE.promise("promise 16, UNSURE STEPS between");
        crossed("side by side", pair(row(9, 1), 5, 5), 1);
        crossed("one between", pair(row(9, 5, 1), 5, 5, 5), 2);
        crossed("three between", pair(row(1, 5, 5, 5, 9), 5, 5, 5, 5, 5), 4);
        crossed("back to the same side", pair(row(9, 5, 9), 5, 5, 5));
        crossed("UNSURE at first", pair(row(5, 5, 9), 5, 5, 5));
        crossed("UNSURE at last", pair(row(9, 5, 5), 5, 5, 5));
        crossed("UNSURE all along", pair(row(5, 5), 5, 5));
        EarChart chart = pair(row(9, 4, 1), 5, 5, 5);
        crossed("4 below 5", chart, 1);
        chart.miss(0, 1);
        crossed("4 below 5 with 1", chart, 2);
        chart.miss(0, 3);
        crossed("1 below 5 with 3", chart, 2);
        chart.miss(1, 1);
        crossed("1 below 5 with 3 and 1", chart);
    }

    private static void crossingsOverGaps() {
        DUE.promise("promise 16, a GAP between");
        crossed("in the first", pair(row(9, G, 1), 5, 5, 5));
        crossed("in the other", pair(row(9, 1, 1), 5, G, 5));
        crossed("in both", pair(row(9, G, 1), 5, G, 5));
        crossed("and UNSURE ahead of it", pair(row(9, 5, G, 1), 5, 5, 5, 5));
        crossed("and UNSURE behind it", pair(row(9, G, 5, 1), 5, 5, 5, 5));
        crossed("one behind it", pair(row(9, G, 1, 9), 5, 5, 5, 5), 3);
        crossed("one ahead of it", pair(row(9, 1, G, 9), 5, 5, 5, 5), 1);
        EarChart chart = pair(row(9, G, 1), 5, 5, 5);
        chart.put(0, 1, 5);
        crossed("a GAP that is UNSURE by now", chart, 2);
        chart.put(0, 1, 1);
        crossed("a GAP that is BELOW by now", chart, 1);
    }

    private static void crossingsAtEnds() {
        DUE.promise("promise 16, the ends of ROWS");
        crossed("a longer ROW", pair(row(9, 1, 9, 1), 5, 5), 1);
        crossed("a longer other ROW", pair(row(9), 5, 99, 99));
        crossed("an empty ROW", pair(row(9, 1)));
        crossed("two empty ROWS", new EarChart());
        crossed("one STEP", pair(row(9), 5));
        EarChart cleared = pair(row(9, 1), 5, 5);
        cleared.clear(1);
        crossed("a cleared ROW", cleared);
        DUE.promise("promises 16 and 17, as many as can be");
        EarChart full = pair(Due.zigzag(-1000, 1000), Due.zigzag(1000, -1000));
        DUE.is("how many", full.crossings(0, 1), 39);
        DUE.is("the first", full.crossing(0, 1, 0), 1);
        DUE.is("the last", full.crossing(0, 1, 38), 39);
    }

    private static void crossingNumbers() {
        EarChart full = pair(Due.zigzag(0, 9), Due.zigzag(9, 0));
        DUE.promise("promise 17, no such CROSSING");
        for (int k : new int[] {-1, 39, 40, Integer.MIN_VALUE, Integer.MAX_VALUE}) {
            DUE.is("crossing(0, 1, " + k + ")", full.crossing(0, 1, k), -1);
        }
        DUE.promise("promises 16 and 17, a ROW and itself");
        for (int row = 0; row < 4; row++) {
            DUE.is("crossings of " + row, full.crossings(row, row), -1);
            DUE.is("crossing of " + row, full.crossing(row, row, 0), -1);
        }
        DUE.promise("promises 16 and 17, no such ROWS");
        for (int row : Due.NO_ROWS) {
            DUE.is("crossings(0, " + row + ")", full.crossings(0, row), -1);
            DUE.is("crossings(" + row + ", 1)", full.crossings(row, 1), -1);
            DUE.is("crossings(" + row + ", " + row + ")", full.crossings(row, row), -1);
            DUE.is("crossing(0, " + row + ", 0)", full.crossing(0, row, 0), -1);
            DUE.is("crossing(" + row + ", 1, 0)", full.crossing(row, 1, 0), -1);
        }
    }
}
