/** The boundary cases of promises 18 to 24, each in a test of its own on new objects. */
final class ToneEdgesTest {
    private static final Due DUE = new Due();
    private static final int G = Due.GAP;
    private static final int[] FAR = {Integer.MIN_VALUE, Integer.MAX_VALUE};

    public static void main(String[] args) {
        scaleNumbers();
        scaleOfZero();
        scaleOfSixtyHeights();
        scaleWithoutValues();
        scaleThatStays();
        heightsAtEnds();
        heightsWithoutValues();
        lowAsItIsNow();
        earNumbers();
        earRefused();
        hideAtItsBounds();
        lateAtItsBounds();
        worthNumbers();
        worthAtItsBounds();
        laySteps();
        layOfFour();
        likeLayings();
        slotsWithoutTones();
        hearsByOne();
        hearsWithTheGreatestMiss();
        hearsWhatIsNotHeard();
        hearsNoSuch();
        hearsNothingFalse();
        DUE.end();
    }

    private static void slots(String name, EarChart chart, int cost, int... due) {
        for (int row = 0; row < due.length; row++) {
            DUE.is(name + ", SLOT of " + row, chart.slot(row, 0), due[row]);
        }
        DUE.is(name + ", cost", chart.lay(0), cost);
    }

    // ---- promise 18

    private static void scaleNumbers() {
        DUE.promise("promise 18, the least and the greatest D and APART");
        DUE.is("1, 1", Due.chart(0).scale(1, 1), 1);
        DUE.is("2000, 1", Due.chart(0).scale(2000, 1), 2000);
        DUE.is("20, 20", Due.chart(0).scale(20, 20), 1);
        DUE.is("2000, 20", Due.chart(0).scale(2000, 20), 100);
        DUE.promise("promise 18, a D that can't be");
        for (int d : new int[] {0, -1, 2001, FAR[0], FAR[1]}) {
            DUE.is("scale(" + d + ", 1)", Due.chart(0).scale(d, 1), -1);
            DUE.is("scale(" + d + ", 1), no VALUE", new EarChart().scale(d, 1), -1);
        }
        DUE.promise("promise 18, an APART that can't be");
        for (int apart : new int[] {0, -1, 21, FAR[0], FAR[1]}) {
            DUE.is("scale(2000, " + apart + ")", Due.chart(0).scale(2000, apart), -1);
            DUE.is("scale(2000, " + apart + "), no VALUE", new EarChart().scale(2000, apart), -1);
            DUE.is("scale(0, " + apart + ")", Due.chart(0).scale(0, apart), -1);
        }
    }

    private static void scaleOfZero() {
        DUE.promise("promise 18, G would be 0");
        DUE.is("1, 2", Due.chart(0).scale(1, 2), -2);
        DUE.is("19, 20", Due.chart(0).scale(19, 20), -2);
        DUE.promise("promise 18, the greatest whole G");
        DUE.is("39, 20", Due.chart(0).scale(39, 20), 1);
        DUE.is("40, 20", Due.chart(0).scale(40, 20), 2);
        DUE.is("1999, 2", Due.chart(0).scale(1999, 2), 999);
        DUE.is("1999, 1", Due.chart(0).scale(1999, 1), 1999);
    }

    private static void scaleOfSixtyHeights() {
        DUE.promise("promise 18, 60 HEIGHTS and 61");
        DUE.is("59 by 1", Due.chart(0, 59).scale(1, 1), 1);
        DUE.is("60 by 1", Due.chart(0, 60).scale(1, 1), -2);
        DUE.is("119 by 2", Due.chart(0, 119).scale(2, 1), 2);
        DUE.is("120 by 2", Due.chart(0, 120).scale(2, 1), -2);
        DUE.is("-1000 to -941 by 1", Due.chart(-1000, -941).scale(1, 1), 1);
        DUE.is("-1000 to -940 by 1", Due.chart(-1000, -940).scale(1, 1), -2);
        DUE.is("2000 by 33", Due.chart(-1000, 1000).scale(33, 1), -2);
        DUE.is("2000 by 34", Due.chart(1000, -1000).scale(34, 1), 34);
        DUE.is("2000 by 2000", Due.chart(1000, -1000).scale(2000, 1), 2000);
        DUE.promise("promise 18, the VALUES of all ROWS");
        EarChart apart = Due.chart(0);
        Due.fill(apart, 3, G, 60);
        DUE.is("60 by 1, in two ROWS", apart.scale(1, 1), -2);
        apart.put(3, 1, 59);
        DUE.is("59 by 1, in two ROWS", apart.scale(1, 1), 1);
    }

    private static void scaleWithoutValues() {
        DUE.promise("promise 18, no VALUE");
        DUE.is("empty ROWS", new EarChart().scale(1, 1), -2);
        DUE.is("GAPS alone", Due.chart(G, G).scale(1, 1), -2);
        EarChart cleared = Due.chart(1, 2);
        cleared.clear(0);
        DUE.is("cleared ROWS", cleared.scale(1, 1), -2);
        cleared.gap(0);
        DUE.is("a GAP where a VALUE was", cleared.scale(1, 1), -2);
        cleared.put(0, 0, 0);
        DUE.is("a VALUE where a GAP was", cleared.scale(1, 1), 1);
        DUE.promise("promise 18, no VALUE, and none is found");
        EarChart later = new EarChart();
        later.scale(1, 1);
        later.value(0, 1);
        DUE.is("no SCALE when VALUES come", later.height(0, 0), -1);
        DUE.promise("promise 18, one VALUE in the last ROW");
        EarChart last = new EarChart();
        Due.fill(last, 3, G, G, -1000);
        DUE.is("G", last.scale(1, 1), 1);
        DUE.is("its HEIGHT", last.height(3, 2), 0);
    }

    private static void scaleThatStays() {
        DUE.promise("promise 18, the one before stays");
        EarChart chart = Due.chart(0, 100);
        DUE.is("5", chart.scale(5, 1), 5);
        DUE.is("too many HEIGHTS", chart.scale(1, 1), -2);
        DUE.is("HEIGHT", chart.height(0, 1), 20);
        DUE.is("G would be 0", chart.scale(1, 2), -2);
        DUE.is("HEIGHT", chart.height(0, 1), 20);
        DUE.is("D can't be", chart.scale(2001, 1), -1);
        DUE.is("HEIGHT", chart.height(0, 1), 20);
        DUE.is("APART can't be", chart.scale(2000, 21), -1);
        DUE.is("HEIGHT", chart.height(0, 1), 20);
        chart.clear(0);
        DUE.is("no VALUE", chart.scale(10, 1), -2);
        Due.fill(chart, 0, 0, 100);
        DUE.is("HEIGHT", chart.height(0, 1), 20);
        DUE.is("another one takes its place", chart.scale(10, 1), 10);
        DUE.is("HEIGHT", chart.height(0, 1), 10);
        DUE.promise("promise 18, none before, and none by what is refused");
        EarChart none = Due.chart(0, 100);
        DUE.is("too many HEIGHTS", none.scale(1, 1), -2);
        DUE.is("D can't be", none.scale(0, 1), -1);
        DUE.is("HEIGHT", none.height(0, 0), -1);
        DUE.is("lay", none.lay(0), -1);
    }

    // ---- promise 19

    private static void heightsAtEnds() {
        DUE.promise("promise 19, floor");
        EarChart chart = Due.chart(-7, 0, 2, 3, 13);
        chart.scale(10, 1);
        int[] due = {0, 0, 0, 1, 2};
        for (int step = 0; step < due.length; step++) {
            DUE.is("height(0, " + step + ")", chart.height(0, step), due[step]);
        }
        DUE.promise("promise 19, above 59");
        EarChart high = Due.chart(59, 0);
        high.scale(1, 1);
        DUE.is("59", high.height(0, 0), 59);
        high.put(0, 0, 60);
        DUE.is("60", high.height(0, 0), 60);
        high.put(0, 0, 1000);
        high.put(0, 1, -1000);
        DUE.is("2000", high.height(0, 0), 2000);
        DUE.promise("promise 19, the greatest and the least VALUE alone");
        DUE.is("1000", Due.tones(1, 1000).height(0, 0), 0);
        DUE.is("-1000", Due.tones(1, -1000).height(0, 0), 0);
        DUE.promise("promise 19, the last STEP of a full ROW");
        EarChart full = Due.chart(Due.zigzag(0, 9));
        full.scale(1, 1);
        DUE.is("39", full.height(0, 39), 9);
        DUE.promise("promise 19, no such STEP");
        for (int step : Due.NO_STEPS) {
            DUE.is("height(0, " + step + ")", full.height(0, step), -1);
        }
        DUE.promise("promise 19, no such ROW");
        for (int row : Due.NO_ROWS) {
            DUE.is("height(" + row + ", 0)", full.height(row, 0), -1);
        }
    }

    private static void heightsWithoutValues() {
        DUE.promise("promise 19, without a SCALE");
        DUE.is("height", Due.chart(5).height(0, 0), -1);
        DUE.promise("promise 19, a GAP");
        EarChart chart = Due.chart(5, G);
        chart.scale(1, 1);
        DUE.is("height", chart.height(0, 1), -1);
        chart.put(0, 1, 6);
        DUE.is("a VALUE by now", chart.height(0, 1), 1);
        DUE.promise("promise 19, beyond the ROW");
        DUE.is("height", chart.height(0, 2), -1);
        DUE.promise("promise 19, an empty ROW");
        DUE.is("height", chart.height(1, 0), -1);
        DUE.promise("promise 19, no VALUE in any ROW");
        chart.clear(0);
        DUE.is("height", chart.height(0, 0), -1);
    }

    private static void lowAsItIsNow() {
        DUE.promise("promises 18 and 19, LOW as it is when it is asked");
        EarChart chart = Due.chart(20, 0);
        chart.scale(10, 1);
        DUE.is("LOW 0", chart.height(0, 0), 2);
        chart.put(0, 1, 15);
        DUE.is("LOW 15", chart.height(0, 0), 0);
        chart.value(3, -1000);
        DUE.is("LOW -1000", chart.height(0, 0), 102);
        chart.clear(3);
        DUE.is("LOW 15 again", chart.height(0, 0), 0);
        chart.value(2, 1000);
        DUE.is("LOW 15 still", chart.height(0, 0), 0);
        DUE.is("98 by 10", chart.height(2, 0), 98);
        chart.clear(0);
        DUE.is("LOW 1000", chart.height(2, 0), 0);
        DUE.promise("promise 22, HEIGHTS as they are when it is asked");
        EarChart near = Due.tones(10, 10, 39);
        near.ear(3, 1);
        DUE.is("0 and 2", near.lay(0), 1);
        near.value(2, 9);
        DUE.is("0 and 3, and one more at 0", near.lay(0), 1);
        DUE.is("the second ROW", near.slot(1, 0), 0);
        DUE.is("the third ROW", near.slot(2, 0), 1);
    }

    // ---- promise 20

    private static void earNumbers() {
        DUE.promise("promise 20, the least and the greatest HIDE and LATE");
        DUE.is("0, 0", new EarChart().ear(0, 0), true);
        DUE.is("60, 100", new EarChart().ear(60, 100), true);
        DUE.is("0, 100", new EarChart().ear(0, 100), true);
        DUE.is("60, 0", new EarChart().ear(60, 0), true);
        DUE.promise("promise 20, a HIDE that can't be");
        for (int hide : new int[] {-1, 61, FAR[0], FAR[1]}) {
            DUE.is("ear(" + hide + ", 1)", new EarChart().ear(hide, 1), false);
        }
        DUE.promise("promise 20, a LATE that can't be");
        for (int late : new int[] {-1, 101, FAR[0], FAR[1]}) {
            DUE.is("ear(3, " + late + ")", new EarChart().ear(3, late), false);
            DUE.is("ear(61, " + late + ")", new EarChart().ear(61, late), false);
        }
    }

    private static void earRefused() {
        DUE.promise("promise 20, what is refused sets neither");
        EarChart chart = Due.tones(1, 0, 2, 5);
        chart.ear(3, 7);
        slots("as set", chart, 7, 0, 1, 0);
        for (int hide : new int[] {-1, 61}) {
            chart.ear(hide, 9);
            slots("HIDE of " + hide, chart, 7, 0, 1, 0);
        }
        for (int late : new int[] {-1, 101}) {
            chart.ear(1, late);
            slots("LATE of " + late, chart, 7, 0, 1, 0);
        }
    }

    private static void hideAtItsBounds() {
        DUE.promise("promises 20 and 22, less than HIDE");
        EarChart chart = Due.tones(1, 0, 5);
        chart.ear(5, 1);
        slots("5 apart, HIDE of 5", chart, 0, 0, 0);
        chart.ear(6, 1);
        slots("5 apart, HIDE of 6", chart, 1, 0, 1);
        EarChart down = Due.tones(1, 5, 0);
        down.ear(5, 1);
        slots("5 below, HIDE of 5", down, 0, 0, 0);
        down.ear(6, 1);
        slots("5 below, HIDE of 6", down, 1, 0, 1);
        DUE.promise("promises 20 and 22, HIDE of 0 and of 1");
        EarChart alike = Due.tones(10, 0, 9);
        alike.ear(0, 1);
        slots("one HEIGHT, HIDE of 0", alike, 0, 0, 0);
        alike.ear(1, 1);
        slots("one HEIGHT, HIDE of 1", alike, 1, 0, 1);
        alike.put(1, 0, 10);
        slots("side by side, HIDE of 1", alike, 0, 0, 0);
        DUE.promise("promises 20 and 22, HIDE of 60");
        EarChart wide = Due.tones(1, 0, 59);
        wide.ear(60, 1);
        slots("59 apart", wide, 1, 0, 1);
        wide.put(1, 0, 60);
        slots("60 apart by now", wide, 0, 0, 0);
    }

    private static void lateAtItsBounds() {
        DUE.promise("promises 20 and 22, LATE of 0");
        EarChart chart = Due.tones(1, 5, 5, 5, 5);
        chart.ear(3, 0);
        slots("the lesser SLOTS all the same", chart, 0, 0, 1, 2, 3);
        DUE.promise("promises 20 and 22, LATE of 100");
        chart.ear(3, 100);
        slots("one is heard", chart, 150, 0, 4, 4, 4);
        for (int row = 0; row < 4; row++) {
            chart.worth(row, 1000);
        }
        slots("all are heard", chart, 600, 0, 1, 2, 3);
    }

    // ---- promise 21

    private static void worthNumbers() {
        DUE.promise("promise 21, the least and the greatest WORTH");
        for (int row = 0; row < 4; row++) {
            EarChart chart = new EarChart();
            DUE.is("50 at first", chart.worth(row, 1000), 50);
            DUE.is("1000", chart.worth(row, 0), 1000);
            DUE.is("0", chart.worth(row, 1), 0);
            DUE.is("of another ROW", chart.worth((row + 1) % 4, 1), 50);
        }
        DUE.promise("promise 21, no such WORTH");
        for (int v : new int[] {-1, 1001, FAR[0], FAR[1]}) {
            EarChart chart = new EarChart();
            chart.worth(2, 7);
            DUE.is("worth(2, " + v + ")", chart.worth(2, v), -1);
            DUE.is("it is as it was", chart.worth(2, 0), 7);
        }
        DUE.promise("promise 21, no such ROW");
        for (int row : Due.NO_ROWS) {
            DUE.is("worth(" + row + ", 1)", new EarChart().worth(row, 1), -1);
        }
    }

    private static void worthAtItsBounds() {
        DUE.promise("promises 21 and 22, WORTH of 0");
        EarChart alone = Due.tones(1, 5);
        alone.worth(0, 0);
        slots("SLOT 0 costs no more", alone, 0, 0);
        EarChart two = Due.tones(1, 5, 5);
        two.worth(1, 0);
        slots("LEFT OUT costs less than SLOT 1", two, 0, 0, 4);
        DUE.promise("promises 21 and 22, WORTH against LATE");
        two.ear(3, 30);
        two.worth(1, 29);
        slots("WORTH less", two, 29, 0, 4);
        two.worth(1, 30);
        slots("WORTH alike: the lesser SLOT", two, 30, 0, 1);
        two.worth(1, 31);
        slots("WORTH more", two, 30, 0, 1);
        DUE.promise("promises 21 and 22, the greatest cost");
        EarChart dear = Due.tones(1, 5, 5);
        dear.ear(60, 100);
        dear.worth(0, 1000);
        dear.worth(1, 1000);
        slots("1000 is dearer than 100", dear, 100, 0, 1);
    }

    // ---- promises 22 and 23

    private static void laySteps() {
        DUE.promise("promise 22, the first and the last STEP");
        EarChart chart = new EarChart();
        Due.fill(chart, 0, Due.zigzag(0, 0));
        Due.fill(chart, 1, Due.zigzag(0, 50));
        chart.scale(1, 1);
        DUE.is("lay(0)", chart.lay(0), 1);
        DUE.is("lay(39)", chart.lay(39), 0);
        chart.put(1, 39, 0);
        DUE.is("lay(39), side by side", chart.lay(39), 1);
        DUE.is("slot(1, 39)", chart.slot(1, 39), 1);
        DUE.promise("promise 22, no such STEP");
        for (int step : Due.NO_STEPS) {
            DUE.is("lay(" + step + ")", chart.lay(step), -1);
        }
        DUE.promise("promise 22, a STEP at which no ROW has a VALUE");
        EarChart few = Due.chart(5, G);
        few.scale(1, 1);
        DUE.is("a GAP", few.lay(1), 0);
        DUE.is("beyond all ROWS", few.lay(2), 0);
        DUE.is("STEP 39", few.lay(39), 0);
        few.clear(0);
        DUE.is("empty ROWS", few.lay(0), 0);
        DUE.promise("promise 22, without a SCALE");
        DUE.is("lay(0)", Due.chart(5).lay(0), -1);
        DUE.is("lay(40)", Due.chart(5).lay(40), -1);
    }

    private static void layOfFour() {
        DUE.promise("promises 22 and 23, all SLOTS are taken");
        slots("all alike", Due.tones(1, 5, 5, 5, 5), 6, 0, 1, 2, 3);
        DUE.promise("promises 22 and 23, a SLOT for several TONES");
        slots("all far apart", Due.tones(1, 0, 3, 6, 9), 0, 0, 0, 0, 0);
        slots("in pairs: each TONE pays for its SLOT", Due.tones(1, 0, 0, 10, 10), 2, 0, 1, 0, 1);
        slots("a TONE between two", Due.tones(1, 0, 2, 4), 1, 0, 1, 0);
        slots("a TONE between two, first", Due.tones(1, 2, 0, 4), 1, 1, 0, 0);
        DUE.promise("promises 22 and 23, some are LEFT OUT");
        EarChart chart = Due.tones(1, 5, 5, 5, 5);
        chart.ear(3, 17);
        slots("SLOT 3 costs 51", chart, 101, 0, 1, 2, 4);
        chart.worth(1, 51);
        slots("the second one stays", chart, 101, 0, 1, 2, 4);
        chart.worth(3, 52);
        slots("the third one goes", chart, 101, 0, 1, 4, 2);
        chart.worth(0, 49);
        slots("the first one goes", chart, 100, 4, 0, 1, 2);
    }

    private static void likeLayings() {
        DUE.promise("promise 23, of several the lesser SLOT for the first ROW");
        slots("two alike", Due.tones(1, 5, 5), 1, 0, 1);
        EarChart chart = Due.tones(1, 5, 5, 5, 5);
        chart.ear(3, 50);
        slots("SLOT 1 or LEFT OUT", chart, 150, 0, 1, 4, 4);
        EarChart last = new EarChart();
        last.value(2, 5);
        last.value(3, 5);
        last.scale(1, 1);
        slots("the first ROWS have none", last, 1, -1, -1, 0, 1);
        last.worth(2, 1);
        slots("SLOT 1 for the last, or SLOT 0 and the first LEFT OUT", last, 1, -1, -1, 0, 1);
        last.worth(2, 0);
        slots("LEFT OUT is cheaper", last, 0, -1, -1, 4, 0);
    }

    private static void slotsWithoutTones() {
        DUE.promise("promise 23, without a SCALE");
        DUE.is("slot", Due.chart(5).slot(0, 0), -1);
        EarChart chart = Due.chart(5, G);
        Due.fill(chart, 1, 5, 5, 5);
        chart.scale(1, 1);
        DUE.promise("promise 23, without a VALUE there");
        DUE.is("a GAP", chart.slot(0, 1), -1);
        DUE.is("the other one is alone", chart.slot(1, 1), 0);
        DUE.is("beyond the ROW", chart.slot(0, 2), -1);
        DUE.is("an empty ROW", chart.slot(2, 0), -1);
        DUE.promise("promise 23, no such STEP");
        for (int step : Due.NO_STEPS) {
            DUE.is("slot(1, " + step + ")", chart.slot(1, step), -1);
        }
        DUE.promise("promise 23, no such ROW");
        for (int row : Due.NO_ROWS) {
            DUE.is("slot(" + row + ", 0)", chart.slot(row, 0), -1);
        }
    }

    // ---- promise 24

    private static void hearsByOne() {
        DUE.promise("promise 24, above the other one's greatest VALUE");
        EarChart chart = Due.tones(10, 0, 10);
        DUE.is("both at SLOTS of their own", chart.slot(1, 0), 1);
        DUE.is("10 is above 9", chart.hears(1, 0, 0), 1);
        DUE.is("9 is below 10", chart.hears(0, 1, 0), -1);
        chart.miss(0, 1);
        DUE.is("10 is not above 9 and 1", chart.hears(1, 0, 0), 0);
        DUE.is("turned round", chart.hears(0, 1, 0), 0);
        chart.miss(0, 0);
        chart.miss(1, 1);
        DUE.is("10 less 1 is not above 9", chart.hears(1, 0, 0), 0);
        DUE.is("turned round", chart.hears(0, 1, 0), 0);
        DUE.promise("promise 24, one HEIGHT");
        EarChart alike = Due.tones(10, 0, 9);
        DUE.is("0 and 9", alike.hears(1, 0, 0), 0);
        DUE.is("9 and 0", alike.hears(0, 1, 0), 0);
        DUE.is("sure all the same", alike.sure(1, 0, 0), 1);
        DUE.promise("promise 24, G of 1");
        EarChart fine = Due.tones(1, 0, 1);
        DUE.is("1 above 0", fine.hears(1, 0, 0), 1);
        DUE.is("0 below 1", fine.hears(0, 1, 0), -1);
    }

    private static void hearsWithTheGreatestMiss() {
        DUE.promise("promise 24, the greatest MISSES");
        EarChart chart = Due.tones(34, 0, 34 * 12);
        chart.miss(0, 200);
        chart.miss(1, 174);
        DUE.is("408 less 174 above 33 and 200", chart.hears(1, 0, 0), 1);
        DUE.is("turned round", chart.hears(0, 1, 0), -1);
        chart.miss(1, 175);
        DUE.is("408 less 175 not above 33 and 200", chart.hears(1, 0, 0), 0);
        chart.miss(1, 200);
        DUE.is("408 less 200", chart.hears(0, 1, 0), 0);
        chart.put(1, 0, 34 * 13);
        DUE.is("442 less 200 above 33 and 200", chart.hears(1, 0, 0), 1);
        DUE.promise("promise 24, the greatest G");
        EarChart coarse = Due.tones(2000, -1000, 1000);
        DUE.is("2000 above 1999", coarse.hears(1, 0, 0), 1);
        coarse.miss(0, 1);
        DUE.is("2000 not above 1999 and 1", coarse.hears(1, 0, 0), 0);
    }

    private static void hearsWhatIsNotHeard() {
        DUE.promise("promise 24, LEFT OUT");
        EarChart chart = Due.tones(10, 0, 10, 300, -250);
        chart.ear(20, 100);
        DUE.is("the second one is LEFT OUT", chart.slot(1, 0), 4);
        DUE.is("the second one", chart.hears(1, 0, 0), 0);
        DUE.is("the first one against it", chart.hears(0, 1, 0), 0);
        DUE.is("two that are heard", chart.hears(0, 3, 0), 1);
        chart.worth(1, 1000);
        DUE.is("the second one is heard by now", chart.slot(1, 0), 0);
        DUE.is("the first one is LEFT OUT", chart.hears(0, 3, 0), 0);
        DUE.promise("promise 24, all are LEFT OUT but one");
        EarChart dear = Due.tones(10, 0, 10);
        dear.worth(0, 0);
        dear.ear(60, 100);
        DUE.is("LEFT OUT", dear.slot(0, 0), 4);
        DUE.is("hears", dear.hears(1, 0, 0), 0);
        DUE.promise("promise 24, a GAP, or beyond");
        EarChart gaps = Due.chart(0, G, 0);
        Due.fill(gaps, 1, G, 500);
        gaps.scale(10, 1);
        for (int step = 0; step < 4; step++) {
            DUE.is("hears(0, 1, " + step + ")", gaps.hears(0, 1, step), 0);
            DUE.is("hears(1, 0, " + step + ")", gaps.hears(1, 0, step), 0);
            DUE.is("hears(2, 3, " + step + "), empty ROWS", gaps.hears(2, 3, step), 0);
        }
        DUE.is("STEP 39", gaps.hears(0, 1, 39), 0);
    }

    private static void hearsNoSuch() {
        DUE.promise("promise 24, without a SCALE");
        EarChart none = Due.chart(0);
        none.value(1, 500);
        DUE.is("hears", none.hears(0, 1, 0), -2);
        EarChart chart = Due.tones(10, 0, 500);
        DUE.promise("promise 24, no such STEP");
        for (int step : Due.NO_STEPS) {
            DUE.is("hears(0, 1, " + step + ")", chart.hears(0, 1, step), -2);
        }
        DUE.promise("promise 24, every two ROWS");
        EarChart four = Due.tones(10, 0, 10, 20, 30);
        for (int a = 0; a < 4; a++) {
            for (int b = 0; b < 4; b++) {
                DUE.is("hears(" + a + ", " + b + ", 0)", four.hears(a, b, 0), a == b ? -2 : Integer.compare(a, b));
            }
        }
        DUE.promise("promise 24, a ROW and itself");
        for (int row = 0; row < 4; row++) {
            DUE.is("hears of " + row, chart.hears(row, row, 0), -2);
        }
        DUE.promise("promise 24, no such ROWS");
        for (int row : Due.NO_ROWS) {
            DUE.is("hears(0, " + row + ", 0)", chart.hears(0, row, 0), -2);
            DUE.is("hears(" + row + ", 1, 0)", chart.hears(row, 1, 0), -2);
            DUE.is("hears(" + row + ", " + row + ", 0)", chart.hears(row, row, 0), -2);
        }
    }

    /** 'What a listener makes of the tones alone is never false': what is heard is SURE. */
    private static void hearsNothingFalse() {
        DUE.promise("promise 24, never false");
        for (int g = 1; g <= 7; g++) {
            for (int misses = 0; misses < 16; misses++) {
                EarChart chart = Due.tones(g, 0, 0, 0);
                chart.miss(0, misses / 4);
                chart.miss(1, misses % 4);
                for (int v = 0; v < 40; v++) {
                    chart.put(0, 0, v);
                    chart.put(1, 0, 13);
                    int heard = chart.hears(0, 1, 0);
                    if (heard != 0) {
                        DUE.is("G " + g + ", VALUE " + v + ", MISSES " + misses, chart.sure(0, 1, 0), heard);
                    }
                    DUE.is("turned round", chart.hears(1, 0, 0), -heard);
                }
            }
        }
    }
}
