/** Counts the answers that are not as due, and prints them. */
final class Due {
    private int wrong = 0;
    private String promise = "";

    void promise(String name) {
        promise = name;
    }

    void is(String call, long got, long want) {
        if (got == want) {
            return;
        }
        wrong++;
        if (wrong <= 50) {
            System.out.println(promise + ": " + call + " answered " + got + ", due is " + want);
        }
    }

    void is(String call, boolean got, boolean want) {
        is(call, got ? 1 : 0, want ? 1 : 0);
    }

    void end() {
        System.out.println(wrong == 0 ? "all answers are as due" : wrong + " answers are not as due");
        if (wrong != 0) {
            System.exit(1);
        }
    }

    /** A chart whose ROW holds these; GAP stands for a GAP. */
    static final int GAP = Integer.MIN_VALUE;

    static void fill(EarChart chart, int row, int... values) {
        for (int v : values) {
            if (v == GAP) {
                chart.gap(row);
            } else {
                chart.value(row, v);
            }
        }
    }

    static EarChart chart(int... values) {
        EarChart chart = new EarChart();
        fill(chart, 0, values);
        return chart;
    }
}
