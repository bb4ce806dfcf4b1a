/** Counts the answers that are not as due, and prints them; and makes the charts that the tests ask. */
final class Due {
    /** Stands for a GAP among the VALUES of a ROW. */
    static final int GAP = Integer.MIN_VALUE;
    /** Numbers that no ROW has. */
    static final int[] NO_ROWS = {-1, 4, Integer.MIN_VALUE, Integer.MAX_VALUE};
    /** Numbers that no STEP has in any ROW. */
    static final int[] NO_STEPS = {-1, 40, Integer.MIN_VALUE, Integer.MAX_VALUE};
    /** Numbers that no VALUE has; some of them are answers of 'at'. */
    static final int[] NO_VALUES = {-1001, 1001, -5000, -6000, Integer.MIN_VALUE, Integer.MAX_VALUE};

    private int asked = 0;
    private int wrong = 0;
    private String promise = "";

    void promise(String name) {
        promise = name;
    }

    void is(String call, long got, long want) {
        asked++;
        if (got == want) {
            return;
        }
        wrong++;
        if (wrong <= 50) {
            System.out.println(promise + ": " + call + " answered " + got + ", due is " + want);
        }
    }

    void is(String call, boolean got, boolean want) {
        is(call, got ? 1 : 0, want ? 1 : 0);
    }

    int asked() {
        return asked;
    }

    void end() {
        System.out.println(wrong == 0 ? "all answers are as due" : wrong + " answers are not as due");
        if (wrong != 0) {
            System.exit(1);
        }
    }

    static void fill(EarChart chart, int row, int... values) {
        for (int v : values) {
            if (v == GAP) {
                chart.gap(row);
            } else {
                chart.value(row, v);
            }
        }
    }

    static EarChart chart(int... values) {
        EarChart chart = new EarChart();
        fill(chart, 0, values);
        return chart;
    }

    /** A chart of as many ROWS as there are VALUES, each with one of them at STEP 0, and THE SCALE of G. */
    static EarChart tones(int g, int... values) {
        EarChart chart = new EarChart();
        for (int row = 0; row < values.length; row++) {
            chart.value(row, values[row]);
        }
        chart.scale(g, 1);
        return chart;
    }

    /** 40 VALUES, by turns the first and the second one. */
    static int[] zigzag(int even, int odd) {
        int[] values = new int[40];
        for (int step = 0; step < 40; step++) {
            values[step] = step % 2 == 0 ? even : odd;
        }
        return values;
    }
}
