/**
 * A desk by which charts are heard. Words in capitals are the terms of the document, which says as
 * numbered promises what each call answers.
 */
public final class EarChart {
    public static final int NONE = -1;

    private static final int ROWS = 4;
    private static final int STEPS = 40;
    private static final int MOST_VALUE = 1000;
    private static final int MOST_MISS = 200;
    private static final int MOST_PART = 10000;
    private static final int MOST_DIFFERENCE = 2000;
    private static final int MOST_APART = 20;
    private static final int MOST_HEIGHTS = 60;
    private static final int MOST_HIDE = 60;
    private static final int MOST_LATE = 100;
    private static final int MOST_WORTH = 1000;
    private static final int MOST_BEATS = 200;

    private static final int FIRST_PART = 10;
    private static final int FIRST_HIDE = 3;
    private static final int FIRST_LATE = 1;
    private static final int FIRST_WORTH = 50;

    private static final int GAP = -5000;
    private static final int NO_STEP = -6000;
    private static final int UNKNOWN = -2;
    private static final int NO_SCALE = -2;

    private static final int NO_WAY = 0;
    private static final int RISE = 1;
    private static final int FALL = 2;
    private static final int STILL = 3;

    private static final int LEFT_OUT = 4;

    // Beyond all that there can be, so that the first one found takes their place; no LAYING is dearer than none heard.
    private static final int NO_LOW = MOST_VALUE + 1;
    private static final int NO_HIGH = -MOST_VALUE - 1;
    private static final int NO_LAYING = ROWS * MOST_WORTH + 1;

    private final Row[] rows;
    private final Shape shape;
    private final Meeting meeting;
    private final Laying laying;
    private final boolean[] marks;
    private int part;
    private int grain;
    private int hide;
    private int late;
    private int walkRow;
    private int walkStep;

    public EarChart() {
        rows = new Row[ROWS];
        for (int row = 0; row < ROWS; row++) {
            rows[row] = new Row();
        }
        shape = new Shape();
        meeting = new Meeting();
        laying = new Laying();
        marks = new boolean[STEPS];
        part = FIRST_PART;
        grain = 0;
        hide = FIRST_HIDE;
        late = FIRST_LATE;
        walkRow = NONE;
        walkStep = 0;
    }

    // ---- rows

    public int value(int row, int v) {
        Row chosen = rowOf(row);
        return chosen == null || !isValue(v) ? NONE : chosen.append(v);
    }

    public int gap(int row) {
        Row chosen = rowOf(row);
        return chosen == null ? NONE : chosen.append(GAP);
    }

    public boolean put(int row, int step, int v) {
        Row chosen = rowOf(row);
        if (chosen == null || !chosen.hasStep(step) || !isValue(v)) {
            return false;
        }
        chosen.values[step] = v;
        return true;
    }

    public int clear(int row) {
        Row chosen = rowOf(row);
        if (chosen == null) {
            return NONE;
        }
        int had = chosen.count;
        chosen.count = 0;
        if (walkRow == row) {
            walkRow = NONE;
        }
        return had;
    }

    public int miss(int row, int v) {
        Row chosen = rowOf(row);
        if (chosen == null || !within(v, 0, MOST_MISS)) {
            return NONE;
        }
        int was = chosen.miss;
        chosen.miss = v;
        return was;
    }

    public int part(int v) {
        if (!within(v, 0, MOST_PART)) {
            return NONE;
        }
        int was = part;
        part = v;
        return was;
    }

    public int at(int row, int step) {
        Row chosen = rowOf(row);
        return chosen == null || !chosen.hasStep(step) ? NO_STEP : chosen.values[step];
    }

    // ---- shapes

    public int spans(int row) {
        return readShape(row) ? shape.spanCount : NONE;
    }

    public int cost(int row) {
        return readShape(row) ? shape.total : NONE;
    }

    public int span(int row, int k, int what) {
        if (!readShape(row) || !shape.hasSpan(k)) {
            return NONE;
        }
        switch (what) {
            case 0:
                return shape.kindOfSpan(k);
            case 1:
                return shape.firsts[k];
            case 2:
                return shape.lasts[k];
            default:
                return NONE;
        }
    }

    public int kind(int row, int step) {
        return within(step, 0, STEPS - 1) && readShape(row) ? shape.kinds[step] : NO_WAY;
    }

    public int turnsOf(int row) {
        return readShape(row) ? shape.turnCount : NONE;
    }

    public int turn(int row, int k) {
        return readShape(row) && within(k, 0, shape.turnCount - 1) ? shape.turns[k] : NONE;
    }

    public int sure(int a, int b, int step) {
        return areTwoRows(a, b) ? compareSurely(rows[a], rows[b], step) : UNKNOWN;
    }

    public int crossings(int a, int b) {
        return readMeeting(a, b) ? meeting.count : NONE;
    }

    public int crossing(int a, int b, int k) {
        return readMeeting(a, b) && within(k, 0, meeting.count - 1) ? meeting.steps[k] : NONE;
    }

    // ---- tones

    public int scale(int d, int apart) {
        if (!within(d, 1, MOST_DIFFERENCE) || !within(apart, 1, MOST_APART)) {
            return NONE;
        }
        // VALUES that differ by d differ by floor(d / G) HEIGHTS at least, and LOW with one d above it by no more.
        int found = d / apart;
        int low = lowestValue();
        int high = highestValue();
        if (low > high || found < 1 || (high - low) / found + 1 > MOST_HEIGHTS) {
            return NO_SCALE;
        }
        grain = found;
        return found;
    }

    public int height(int row, int step) {
        Row chosen = rowOf(row);
        return chosen == null ? NONE : heightAbove(lowestValue(), chosen, step);
    }

    public boolean ear(int hide, int late) {
        if (!within(hide, 0, MOST_HIDE) || !within(late, 0, MOST_LATE)) {
            return false;
        }
        this.hide = hide;
        this.late = late;
        return true;
    }

    public int worth(int row, int v) {
        Row chosen = rowOf(row);
        if (chosen == null || !within(v, 0, MOST_WORTH)) {
            return NONE;
        }
        int was = chosen.worth;
        chosen.worth = v;
        return was;
    }

    public int lay(int step) {
        return readLaying(step) ? laying.least : NONE;
    }

    public int slot(int row, int step) {
        Row chosen = rowOf(row);
        if (chosen == null || !chosen.hasValue(step) || !readLaying(step)) {
            return NONE;
        }
        return laying.slots[row];
    }

    public int hears(int a, int b, int step) {
        if (!areTwoRows(a, b) || !readLaying(step)) {
            return UNKNOWN;
        }
        if (!laying.isHeard(a) || !laying.isHeard(b)) {
            return 0;
        }
        if (soundsAbove(a, b)) {
            return 1;
        }
        return soundsAbove(b, a) ? -1 : 0;
    }

    // ---- plans

    public int whole(int row, int beats, int k) {
        if (!within(beats, 1, MOST_BEATS) || !readShape(row)) {
            return NONE;
        }
        return shape.hasSpan(k) && beats >= shape.spanCount ? shape.beatsOfSpan(k, beats) : NONE;
    }

    public boolean walk(int row, int step) {
        Row chosen = rowOf(row);
        if (chosen == null || !chosen.hasStep(step)) {
            return false;
        }
        walkRow = row;
        walkStep = step;
        return true;
    }

    public int where(int what) {
        if (walkRow == NONE) {
            return NONE;
        }
        switch (what) {
            case 0:
                return walkRow;
            case 1:
                return walkStep;
            default:
                return NONE;
        }
    }

    public int go(boolean on) {
        Row walked = rowOf(walkRow);
        int next = on ? walkStep + 1 : walkStep - 1;
        if (walked == null || !walked.hasStep(next)) {
            return NONE;
        }
        walkStep = next;
        return next;
    }

    public int seek(boolean on, int what) {
        Row walked = rowOf(walkRow);
        if (walked == null) {
            return NONE;
        }
        markSought(walked, what);
        int found = on ? markBehind(walkStep) : markAhead(walkStep);
        if (found != NONE) {
            walkStep = found;
        }
        return found;
    }

    // ---- what the calls share

    private static boolean within(int number, int least, int most) {
        return number >= least && number <= most;
    }

    private static boolean isValue(int v) {
        return within(v, -MOST_VALUE, MOST_VALUE);
    }

    private Row rowOf(int row) {
        return within(row, 0, ROWS - 1) ? rows[row] : null;
    }

    private static boolean areTwoRows(int a, int b) {
        return a != b && within(a, 0, ROWS - 1) && within(b, 0, ROWS - 1);
    }

    private boolean readShape(int row) {
        Row chosen = rowOf(row);
        if (chosen == null) {
            return false;
        }
        shape.read(chosen, part);
        return true;
    }

    private boolean readMeeting(int a, int b) {
        if (!areTwoRows(a, b)) {
            return false;
        }
        meeting.read(rows[a], rows[b]);
        return true;
    }

    private static int compareSurely(Row a, Row b, int step) {
        if (!a.hasValue(step) || !b.hasValue(step)) {
            return UNKNOWN;
        }
        int difference = a.values[step] - b.values[step];
        int misses = a.miss + b.miss;
        if (difference > misses) {
            return 1;
        }
        return difference < -misses ? -1 : 0;
    }

    private int lowestValue() {
        int low = NO_LOW;
        for (int row = 0; row < ROWS; row++) {
            low = Math.min(low, rows[row].lowest());
        }
        return low;
    }

    private int highestValue() {
        int high = NO_HIGH;
        for (int row = 0; row < ROWS; row++) {
            high = Math.max(high, rows[row].highest());
        }
        return high;
    }

    private int heightAbove(int low, Row row, int step) {
        return grain < 1 || !row.hasValue(step) ? NONE : (row.values[step] - low) / grain;
    }

    private boolean readLaying(int step) {
        if (grain < 1 || !within(step, 0, STEPS - 1)) {
            return false;
        }
        int low = lowestValue();
        for (int row = 0; row < ROWS; row++) {
            laying.heights[row] = heightAbove(low, rows[row], step);
            laying.worths[row] = rows[row].worth;
        }
        laying.find(hide, late);
        return true;
    }

    /** Of the two TONES that the LAYING was last read for. */
    private boolean soundsAbove(int a, int b) {
        int leastOfA = grain * laying.heights[a] - rows[a].miss;
        int mostOfB = grain * laying.heights[b] + grain - 1 + rows[b].miss;
        return leastOfA > mostOfB;
    }

    private void markSought(Row walked, int what) {
        for (int step = 0; step < STEPS; step++) {
            marks[step] = what == 2 && walked.hasStep(step) && !walked.hasValue(step);
        }
        if (what == 0) {
            markTurns(walked);
        } else if (what == 1) {
            markCrossings(walked);
        }
    }

    private void markTurns(Row walked) {
        shape.read(walked, part);
        for (int k = 0; k < shape.turnCount; k++) {
            marks[shape.turns[k]] = true;
        }
    }

    private void markCrossings(Row walked) {
        for (int row = 0; row < ROWS; row++) {
            if (row == walkRow) {
                continue;
            }
            meeting.read(walked, rows[row]);
            for (int k = 0; k < meeting.count; k++) {
                marks[meeting.steps[k]] = true;
            }
        }
    }

    private int markBehind(int from) {
        for (int step = from + 1; step < STEPS; step++) {
            if (marks[step]) {
                return step;
            }
        }
        return NONE;
    }

    private int markAhead(int from) {
        for (int step = from - 1; step >= 0; step--) {
            if (marks[step]) {
                return step;
            }
        }
        return NONE;
    }

    /** The STEPS of one ROW, and what is set for it; these settings outlast its STEPS. */
    private static final class Row {
        private final int[] values = new int[STEPS];
        private int count = 0;
        private int miss = 0;
        private int worth = FIRST_WORTH;

        private boolean hasStep(int step) {
            return step >= 0 && step < count;
        }

        private boolean hasValue(int step) {
            return step >= 0 && step < count && values[step] != GAP;
        }

        private boolean hasWay(int step) {
            return hasValue(step) && hasValue(step + 1);
        }

        private int append(int v) {
            if (count >= STEPS) {
                return NONE;
            }
            values[count] = v;
            count++;
            return count;
        }

        private int lowest() {
            int low = NO_LOW;
            for (int step = 0; step < count; step++) {
                if (values[step] != GAP) {
                    low = Math.min(low, values[step]);
                }
            }
            return low;
        }

        private int highest() {
            int high = NO_HIGH;
            for (int step = 0; step < count; step++) {
                if (values[step] != GAP) {
                    high = Math.max(high, values[step]);
                }
            }
            return high;
        }
    }

    /** THE SPANS and the TURNS of the ROW that was read last; one object serves all ROWS, to spare room. */
    private static final class Shape {
        private final int[] kinds = new int[STEPS];
        private final int[] firsts = new int[STEPS];
        private final int[] lasts = new int[STEPS];
        private final int[] turns = new int[STEPS];
        /** By KIND and WAY: the least cost from this WAY to its PIECE's end, without the PART of its own SPAN. */
        private final int[][] costs = new int[STILL + 1][STEPS];
        private int spanCount = 0;
        private int turnCount = 0;
        private int total = 0;

        private void read(Row row, int part) {
            weighWays(row, part);
            chooseKinds(row, part);
            findTurns(row);
        }

        /** From the end, so that the KINDS can be chosen from the first WAY on, of like costs the lesser one. */
        private void weighWays(Row row, int part) {
            for (int way = STEPS - 2; way >= 0; way--) {
                if (!row.hasWay(way)) {
                    continue;
                }
                int d = row.values[way + 1] - row.values[way];
                for (int kind = RISE; kind <= STILL; kind++) {
                    costs[kind][way] = costOfWay(kind, d);
                    if (row.hasWay(way + 1)) {
                        costs[kind][way] += costBehind(kind, way + 1, bestKind(kind, way + 1, part), part);
                    }
                }
            }
        }

        private static int costOfWay(int kind, int d) {
            if (kind == RISE) {
                return Math.max(0, -d);
            }
            return kind == FALL ? Math.max(0, d) : Math.abs(d);
        }

        private int costBehind(int before, int way, int kind, int part) {
            return kind == before ? costs[kind][way] : costs[kind][way] + part;
        }

        private int bestKind(int before, int way, int part) {
            int best = RISE;
            for (int kind = FALL; kind <= STILL; kind++) {
                if (costBehind(before, way, kind, part) < costBehind(before, way, best, part)) {
                    best = kind;
                }
            }
            return best;
        }

        private void chooseKinds(Row row, int part) {
            int before = NO_WAY;
            spanCount = 0;
            total = 0;
            for (int step = 0; step < STEPS; step++) {
                int kind = row.hasWay(step) ? bestKind(before, step, part) : NO_WAY;
                if (before == NO_WAY && kind != NO_WAY) {
                    total += costBehind(NO_WAY, step, kind, part);
                }
                noteWay(step, kind, before);
                before = kind;
            }
        }

        private void noteWay(int step, int kind, int before) {
            kinds[step] = kind;
            if (kind == NO_WAY) {
                return;
            }
            if (kind != before) {
                firsts[spanCount] = step;
                spanCount++;
            }
            lasts[spanCount - 1] = step + 1;
        }

        private void findTurns(Row row) {
            turnCount = 0;
            for (int k = 1; k < spanCount; k++) {
                if (turnsAtStart(row, k)) {
                    turns[turnCount] = firsts[k];
                    turnCount++;
                }
            }
        }

        private boolean turnsAtStart(Row row, int k) {
            int step = firsts[k];
            if (lasts[k - 1] != step || kindOfSpan(k - 1) == STILL || kindOfSpan(k) == STILL) {
                return false;
            }
            int fromFirst = Math.abs(row.values[step] - row.values[firsts[k - 1]]);
            int fromLast = Math.abs(row.values[step] - row.values[lasts[k]]);
            return Math.min(fromFirst, fromLast) > 2 * row.miss;
        }

        private boolean hasSpan(int k) {
            return k >= 0 && k < spanCount;
        }

        private int kindOfSpan(int k) {
            return kinds[firsts[k]];
        }

        private int waysOfSpan(int k) {
            return lasts[k] - firsts[k];
        }

        private int allWays() {
            int all = 0;
            for (int k = 0; k < spanCount; k++) {
                all += waysOfSpan(k);
            }
            return all;
        }

        private int beatsOfSpan(int k, int beats) {
            int all = allWays();
            if (all < 1) {
                return NONE;
            }
            int left = beats - spanCount;
            int lacks = left;
            int ahead = 0;
            int rest = left * waysOfSpan(k) % all;
            for (int other = 0; other < spanCount; other++) {
                lacks -= left * waysOfSpan(other) / all;
                int otherRest = left * waysOfSpan(other) % all;
                if (otherRest > rest || otherRest == rest && other < k) {
                    ahead++;
                }
            }
            int share = 1 + left * waysOfSpan(k) / all;
            return ahead < lacks ? share + 1 : share;
        }
    }

    /** The CROSSINGS of the two ROWS that were read last. */
    private static final class Meeting {
        private final int[] steps = new int[STEPS];
        private int count = 0;

        private void read(Row a, Row b) {
            count = 0;
            int before = 0;
            for (int step = 0; step < STEPS; step++) {
                int now = compareSurely(a, b, step);
                if (now == UNKNOWN) {
                    before = 0;
                } else if (now != 0) {
                    if (before == -now) {
                        steps[count] = step;
                        count++;
                    }
                    before = now;
                }
            }
        }
    }

    /** THE LAYING of the STEP whose HEIGHTS were set last; HEIGHT and SLOT are NONE for a ROW without a TONE. */
    private static final class Laying {
        private final int[] heights = new int[ROWS];
        private final int[] worths = new int[ROWS];
        private final int[] slots = new int[ROWS];
        private final int[] trial = new int[ROWS];
        private int hide = 0;
        private int late = 0;
        private int least = 0;

        private void find(int hide, int late) {
            this.hide = hide;
            this.late = late;
            least = NO_LAYING;
            tryFrom(0, 0);
        }

        /** LAYINGS come with the lesser SLOTS first, so a later one must be cheaper to be taken. */
        private void tryFrom(int row, int spent) {
            if (spent >= least) {
                return;
            }
            if (row >= ROWS) {
                least = spent;
                System.arraycopy(trial, 0, slots, 0, ROWS);
            } else if (heights[row] == NONE) {
                tryWith(row, NONE, spent);
            } else {
                tryPlaces(row, spent);
            }
        }

        private void tryPlaces(int row, int spent) {
            for (int place = 0; place < LEFT_OUT; place++) {
                if (isFree(row, place)) {
                    tryWith(row, place, spent + place * late);
                }
            }
            tryWith(row, LEFT_OUT, spent + worths[row]);
        }

        private void tryWith(int row, int place, int spent) {
            trial[row] = place;
            tryFrom(row + 1, spent);
        }

        private boolean isFree(int row, int place) {
            for (int other = 0; other < row; other++) {
                if (trial[other] == place && Math.abs(heights[row] - heights[other]) < hide) {
                    return false;
                }
            }
            return true;
        }

        private boolean isHeard(int row) {
            return slots[row] != NONE && slots[row] != LEFT_OUT;
        }
    }
}
