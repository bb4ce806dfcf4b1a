/** Promises 18 to 24: THE SCALE, HEIGHTS, LAYING and THE LISTENER. */
final class TonesTest {
    private static final Due DUE = new Due();

    public static void main(String[] args) {
        scale();
        scaleKeepsApart();
        height();
        ear();
        worth();
        lay();
        slot();
        hears();
        DUE.end();
    }

    private static void scale() {
        DUE.promise("promise 18");
        EarChart chart = new EarChart();
        DUE.is("no value", chart.scale(10, 2), -2);
        chart.gap(0);
        DUE.is("a gap is no value", chart.scale(10, 2), -2);
        DUE.is("a wrong number without a value", chart.scale(0, 2), -1);
        chart.value(0, 0);
        DUE.is("d 0", chart.scale(0, 1), -1);
        DUE.is("d -1", chart.scale(-1, 1), -1);
        DUE.is("d 2001", chart.scale(2001, 1), -1);
        DUE.is("apart 0", chart.scale(1, 0), -1);
        DUE.is("apart -1", chart.scale(1, -1), -1);
        DUE.is("apart 21", chart.scale(2000, 21), -1);
        DUE.is("no scale by what is refused", chart.height(0, 1), -1);
        DUE.is("least", chart.scale(1, 1), 1);
        DUE.is("greatest", chart.scale(2000, 1), 2000);
        DUE.is("most apart", chart.scale(2000, 20), 100);
        DUE.is("rounded down", chart.scale(19, 10), 1);
        DUE.is("G would be 0", chart.scale(9, 10), -2);
        chart.value(3, 59);
        DUE.is("60 heights", chart.scale(1, 1), 1);
        chart.value(3, -1);
        DUE.is("61 heights", chart.scale(1, 1), -2);
        DUE.is("31 heights", chart.scale(2, 1), 2);
        DUE.is("refused", chart.scale(1, 1), -2);
        DUE.is("the one before stays", chart.height(3, 0), 30);
        DUE.is("a wrong number", chart.scale(0, 1), -1);
        DUE.is("the one before stays", chart.height(3, 0), 30);
        chart.value(1, 1000);
        chart.value(1, -1000);
        DUE.is("2000 / 33 is 60: 61 heights", chart.scale(33, 1), -2);
        DUE.is("2000 / 34 is 58: 59 heights", chart.scale(34, 1), 34);
        chart.clear(1);
        DUE.is("cleared values do not count", chart.scale(2, 1), 2);
        chart.clear(0);
        chart.clear(3);
        DUE.is("no value any more", chart.scale(2, 1), -2);
    }

    /** THE SCALE as its definition has it: by trying every G. */
    private static void scaleKeepsApart() {
        DUE.promise("promise 18, by trying");
        for (int d = 1; d <= 2000; d += d < 60 ? 1 : 97) {
            EarChart chart = Due.chart(7);
            for (int apart = 1; apart <= 20; apart++) {
                int greatest = 0;
                for (int g = 1; g <= d; g++) {
                    if (keepsApart(g, d, apart)) {
                        greatest = g;
                    }
                }
                DUE.is("scale(" + d + ", " + apart + ")", chart.scale(d, apart), greatest == 0 ? -2 : greatest);
            }
        }
    }

    private static boolean keepsApart(int g, int d, int apart) {
        for (int low = 0; low < g; low++) {
            if ((low + d) / g - low / g < apart) {
                return false;
            }
        }
        return true;
    }

    private static void height() {
        DUE.promise("promise 19");
        EarChart chart = Due.chart(0, 9, 10, Due.GAP, 19);
        DUE.is("without a scale", chart.height(0, 0), -1);
        chart.scale(10, 1);
        int[] due = {0, 0, 1, -1, 1, -1};
        for (int step = 0; step < due.length; step++) {
            DUE.is("step " + step, chart.height(0, step), due[step]);
        }
        DUE.is("ahead", chart.height(0, -1), -1);
        DUE.is("far", chart.height(0, Integer.MAX_VALUE), -1);
        DUE.is("empty row", chart.height(1, 0), -1);
        for (int row : Due.NO_ROWS) {
            DUE.is("no row", chart.height(row, 0), -1);
        }
        chart.value(2, -1);
        DUE.is("low is of all rows", chart.height(0, 1), 1);
        chart.put(2, 0, -1000);
        DUE.is("low is as it is now", chart.height(0, 0), 100);
        chart.clear(2);
        DUE.is("low without that row", chart.height(0, 0), 0);
        chart.value(2, 1000);
        DUE.is("above 59", chart.height(2, 0), 100);
        chart.clear(0);
        DUE.is("low is the only value", chart.height(2, 0), 0);
    }

    private static void ear() {
        DUE.promise("promise 20");
        EarChart chart = Due.chart(0);
        Due.fill(chart, 1, 2);
        Due.fill(chart, 2, 5);
        chart.scale(1, 1);
        DUE.is("at first 0 and 2 hide one another, 2 and 5 do not", chart.lay(0), 1);
        DUE.is("slots", chart.slot(1, 0), 1);
        chart.put(2, 0, 3);
        DUE.is("at first 3 apart do not hide one another", chart.slot(2, 0), 0);
        chart.put(2, 0, 5);
        DUE.is("hide -1", chart.ear(-1, 1), false);
        DUE.is("hide 61", chart.ear(61, 1), false);
        DUE.is("late -1", chart.ear(60, -1), false);
        DUE.is("late 101", chart.ear(60, 101), false);
        DUE.is("neither was set", chart.lay(0), 1);
        DUE.is("most", chart.ear(60, 100), true);
        DUE.is("two are left out", chart.lay(0), 100);
        DUE.is("late 7", chart.ear(60, 7), true);
        DUE.is("slots 0, 1, 2", chart.lay(0), 21);
        DUE.is("least", chart.ear(0, 0), true);
        DUE.is("nothing hides", chart.lay(0), 0);
        chart.put(0, 0, 2);
        DUE.is("hide 0: not even the same height", chart.slot(1, 0), 0);
        chart.ear(1, 0);
        DUE.is("hide 1: the same height", chart.slot(1, 0), 1);
    }

    private static void worth() {
        DUE.promise("promise 21");
        EarChart chart = new EarChart();
        DUE.is("at first", chart.worth(0, 1000), 50);
        DUE.is("then", chart.worth(0, 0), 1000);
        DUE.is("too small", chart.worth(0, -1), -1);
        DUE.is("too great", chart.worth(0, 1001), -1);
        DUE.is("it stays", chart.worth(0, 5), 0);
        DUE.is("of another row", chart.worth(3, 6), 50);
        DUE.is("each its own", chart.worth(0, 0), 5);
        for (int row : Due.NO_ROWS) {
            DUE.is("no row", chart.worth(row, 0), -1);
        }
    }

    private static void lay() {
        DUE.promise("promise 22");
        EarChart chart = Due.chart(5, 5);
        DUE.is("without a scale", chart.lay(0), -1);
        Due.fill(chart, 1, 5, Due.GAP);
        Due.fill(chart, 2, 5);
        Due.fill(chart, 3, 5);
        chart.scale(1, 1);
        DUE.is("slots 0 to 3", chart.lay(0), 6);
        DUE.is("one alone", chart.lay(1), 0);
        DUE.is("none", chart.lay(2), 0);
        DUE.is("the last step", chart.lay(39), 0);
        DUE.is("beyond", chart.lay(40), -1);
        DUE.is("ahead", chart.lay(-1), -1);
        DUE.is("far", chart.lay(Integer.MAX_VALUE), -1);
        chart.ear(3, 20);
        DUE.is("0, 20, 40 and 50 for what is left out", chart.lay(0), 110);
        chart.worth(1, 15);
        DUE.is("15 for the least worth, 0, 20, 40", chart.lay(0), 75);
        chart.clear(0);
        chart.clear(1);
        chart.clear(2);
        chart.clear(3);
        DUE.is("the scale stays without a value", chart.lay(0), 0);
        EarChart late = Due.chart(5);
        Due.fill(late, 1, 5);
        late.scale(1, 1);
        late.worth(0, 1000);
        late.worth(1, 1000);
        late.ear(60, 100);
        DUE.is("late is cheaper", late.lay(0), 100);
    }

    private static void slot() {
        DUE.promise("promise 23");
        EarChart chart = Due.chart(5, 5, Due.GAP);
        DUE.is("without a scale", chart.slot(0, 0), -1);
        for (int row = 1; row < 4; row++) {
            Due.fill(chart, row, 5);
        }
        chart.scale(1, 1);
        for (int row = 0; row < 4; row++) {
            DUE.is("of like costs the lesser slot for the first row", chart.slot(row, 0), row);
        }
        DUE.is("a gap", chart.slot(0, 2), -1);
        DUE.is("beyond", chart.slot(0, 3), -1);
        DUE.is("beyond its row", chart.slot(1, 1), -1);
        DUE.is("ahead", chart.slot(0, -1), -1);
        DUE.is("far", chart.slot(0, Integer.MAX_VALUE), -1);
        for (int row : Due.NO_ROWS) {
            DUE.is("no row", chart.slot(row, 0), -1);
        }
        chart.ear(3, 25);
        int[] due = {0, 1, 2, 4};
        for (int row = 0; row < 4; row++) {
            DUE.is("50 is slot 2 or left out, the last is left out", chart.slot(row, 0), due[row]);
        }
        chart.ear(3, 50);
        int[] dueNext = {0, 1, 4, 4};
        for (int row = 0; row < 4; row++) {
            DUE.is("50 is slot 1 or left out", chart.slot(row, 0), dueNext[row]);
        }
        chart.worth(0, 0);
        int[] dueThen = {4, 0, 1, 4};
        for (int row = 0; row < 4; row++) {
            DUE.is("a row of no worth leaves its slot", chart.slot(row, 0), dueThen[row]);
        }
        chart.put(0, 0, 8);
        DUE.is("3 apart does not hide", chart.slot(0, 0), 0);
        chart.put(0, 0, 7);
        DUE.is("2 apart hides", chart.slot(0, 0), 4);
        highTones();
        tonesOfAnotherStep();
    }

    private static void highTones() {
        EarChart chart = Due.chart(0, 50, 50);
        Due.fill(chart, 1, 50, 52, 53);
        chart.scale(1, 1);
        DUE.is("50 apart", chart.slot(1, 0), 0);
        DUE.is("2 apart, high up", chart.slot(1, 1), 1);
        DUE.is("3 apart, high up", chart.slot(1, 2), 0);
    }

    private static void tonesOfAnotherStep() {
        EarChart chart = Due.chart(5, Due.GAP);
        Due.fill(chart, 1, 5, 5);
        chart.scale(1, 1);
        DUE.is("both", chart.lay(0), 1);
        DUE.is("one is gone", chart.lay(1), 0);
        DUE.is("the other one comes first", chart.slot(1, 1), 0);
        DUE.is("what is gone is not heard", chart.hears(0, 1, 1), 0);
        DUE.is("what is gone has no slot", chart.slot(0, 1), -1);
    }

    private static void hears() {
        DUE.promise("promise 24");
        EarChart chart = Due.chart(0, 4, 0, Due.GAP);
        Due.fill(chart, 1, 10, 5, 4, 9);
        DUE.is("without a scale", chart.hears(0, 1, 0), -2);
        chart.scale(5, 1);
        chart.ear(1, 1);
        DUE.is("below", chart.hears(0, 1, 0), -1);
        DUE.is("above", chart.hears(1, 0, 0), 1);
        DUE.is("5 is above 4", chart.hears(1, 0, 1), 1);
        DUE.is("one height", chart.hears(1, 0, 2), 0);
        DUE.is("a gap", chart.hears(1, 0, 3), 0);
        DUE.is("no step in either", chart.hears(1, 0, 39), 0);
        DUE.is("empty rows", chart.hears(2, 3, 0), 0);
        DUE.is("beyond", chart.hears(1, 0, 40), -2);
        DUE.is("ahead", chart.hears(1, 0, -1), -2);
        DUE.is("itself", chart.hears(1, 1, 0), -2);
        for (int row : Due.NO_ROWS) {
            DUE.is("no row", chart.hears(row, 0, 0), -2);
            DUE.is("no other row", chart.hears(0, row, 0), -2);
        }
        chart.miss(0, 2);
        chart.miss(1, 3);
        DUE.is("10 less 3 is above 4 and 2", chart.hears(1, 0, 0), 1);
        DUE.is("5 less 3 is not", chart.hears(1, 0, 1), 0);
        chart.miss(1, 4);
        DUE.is("10 less 4 is not above 4 and 2", chart.hears(1, 0, 0), 0);
        DUE.is("nor the other way", chart.hears(0, 1, 0), 0);
        chart.miss(0, 0);
        chart.miss(1, 0);
        chart.ear(60, 100);
        DUE.is("what is left out is not heard", chart.hears(1, 0, 0), 0);
        DUE.is("it is sure all the same", chart.sure(1, 0, 0), 1);
    }
}
