/** The example of README.md answers what stands beside it there. */
final class ReadmeTest {
    public static void main(String[] args) {
        Due due = new Due();
        due.promise("README.md");
        EarChart chart = Due.chart(0, 50, 20);
        Due.fill(chart, 1, 30, Due.GAP);
        due.is("spans", chart.spans(0), 2);
        due.is("span", chart.span(0, 1, 0), 2);
        due.is("turn", chart.turn(0, 0), 1);
        due.is("sure", chart.sure(0, 1, 0), -1);
        due.is("scale", chart.scale(10, 2), 5);
        due.is("height", chart.height(0, 1), 10);
        due.is("lay", chart.lay(0), 0);
        due.is("hears", chart.hears(0, 1, 0), -1);
        due.is("whole", chart.whole(0, 6, 0), 3);
        due.is("walk", chart.walk(0, 0), true);
        due.is("seek", chart.seek(true, 0), 1);
        due.end();
    }
}
