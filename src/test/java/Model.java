import java.util.ArrayList;
import java.util.List;

/** The document once more, written by its definitions alone and not for speed; it is what EarChart is held against. */
final class Model {
    final List<List<Integer>> rows = new ArrayList<>();
    final int[] miss = new int[4];
    final int[] worth = {50, 50, 50, 50};
    int part = 10;
    int g = 0;
    int hide = 3;
    int late = 1;
    int walkRow = -1;
    int walkStep = 0;

    Model() {
        for (int row = 0; row < 4; row++) {
            rows.add(new ArrayList<>());
        }
    }

    boolean isRow(int row) {
        return row >= 0 && row < 4;
    }

    boolean areRows(int a, int b) {
        return isRow(a) && isRow(b) && a != b;
    }

    boolean isStep(int row, int step) {
        return isRow(row) && step >= 0 && step < rows.get(row).size();
    }

    Integer valueAt(int row, int step) {
        return isStep(row, step) ? rows.get(row).get(step) : null;
    }

    int append(int row, Integer v) {
        if (!isRow(row) || rows.get(row).size() == 40 || v != null && Math.abs((long) v) > 1000) {
            return -1;
        }
        rows.get(row).add(v);
        return rows.get(row).size();
    }

    /** The KINDS of the WAYS of one PIECE as digits, and their cost. */
    record Parting(String kinds, int cost) {
        boolean isAhead(Parting other) {
            return other == null || cost < other.cost || cost == other.cost && kinds.compareTo(other.kinds) < 0;
        }
    }

    record Span(int kind, int first, int last) {
    }

    int costOf(char kind, int d) {
        return switch (kind) {
            case '1' -> d < 0 ? -d : 0;
            case '2' -> d > 0 ? d : 0;
            default -> Math.abs(d);
        };
    }

    int costOf(String kinds, List<Integer> values) {
        int cost = 0;
        for (int way = 0; way < kinds.length(); way++) {
            cost += costOf(kinds.charAt(way), values.get(way + 1) - values.get(way));
            if (way == 0 || kinds.charAt(way) != kinds.charAt(way - 1)) {
                cost += part;
            }
        }
        return cost;
    }

    Parting partPiece(List<Integer> values) {
        return values.size() <= 7 ? partByTrying("", values) : partByPrefixes(values);
    }

    Parting partByTrying(String kinds, List<Integer> values) {
        if (kinds.length() == values.size() - 1) {
            return new Parting(kinds, costOf(kinds, values));
        }
        Parting best = null;
        for (char kind = '1'; kind <= '3'; kind++) {
            Parting tried = partByTrying(kinds + kind, values);
            if (tried.isAhead(best)) {
                best = tried;
            }
        }
        return best;
    }

    /** For pieces too long to try all: the best beginnings by their last KIND. */
    Parting partByPrefixes(List<Integer> values) {
        List<Parting> begun = List.of(new Parting("", 0));
        for (int way = 0; way < values.size() - 1; way++) {
            List<Parting> longer = new ArrayList<>();
            for (char kind = '1'; kind <= '3'; kind++) {
                Parting best = null;
                for (Parting from : begun) {
                    String kinds = from.kinds + kind;
                    Parting tried = new Parting(kinds, costOf(kinds, values.subList(0, way + 2)));
                    if (tried.isAhead(best)) {
                        best = tried;
                    }
                }
                longer.add(best);
            }
            begun = longer;
        }
        Parting best = null;
        for (Parting tried : begun) {
            if (tried.isAhead(best)) {
                best = tried;
            }
        }
        return best;
    }

    /** The SPANS of a ROW; their cost is told in one place of an array. */
    List<Span> spans(int row, int[] cost) {
        List<Span> found = new ArrayList<>();
        List<Integer> all = rows.get(row);
        int from = 0;
        while (from < all.size()) {
            int to = from;
            while (to < all.size() && all.get(to) != null) {
                to++;
            }
            if (to - from >= 2) {
                Parting parting = partPiece(all.subList(from, to));
                cost[0] += parting.cost;
                addSpans(found, parting.kinds, from);
            }
            from = to + 1;
        }
        return found;
    }

    private static void addSpans(List<Span> found, String kinds, int from) {
        int begin = 0;
        for (int way = 1; way <= kinds.length(); way++) {
            if (way == kinds.length() || kinds.charAt(way) != kinds.charAt(begin)) {
                found.add(new Span(kinds.charAt(begin) - '0', from + begin, from + way));
                begin = way;
            }
        }
    }

    List<Integer> turns(int row) {
        List<Integer> found = new ArrayList<>();
        List<Span> spans = spans(row, new int[1]);
        for (Span one : spans) {
            for (Span next : spans) {
                if (one.last == next.first && one.kind != 3 && next.kind != 3) {
                    int v = valueAt(row, one.last);
                    if (Math.abs(v - valueAt(row, one.first)) > 2 * miss[row]
                        && Math.abs(v - valueAt(row, next.last)) > 2 * miss[row]) {
                        found.add(one.last);
                    }
                }
            }
        }
        return found;
    }

    int sure(int a, int b, int step) {
        if (!areRows(a, b) || valueAt(a, step) == null || valueAt(b, step) == null) {
            return -2;
        }
        int d = valueAt(a, step) - valueAt(b, step);
        return Math.abs(d) > miss[a] + miss[b] ? Integer.signum(d) : 0;
    }

    List<Integer> crossings(int a, int b) {
        List<Integer> found = new ArrayList<>();
        for (int step = 0; step < 40; step++) {
            int now = sure(a, b, step);
            int before = step - 1;
            while (before >= 0 && sure(a, b, before) == 0) {
                before--;
            }
            if (Math.abs(now) == 1 && before >= 0 && sure(a, b, before) == -now) {
                found.add(step);
            }
        }
        return found;
    }

    List<Integer> allValues() {
        List<Integer> all = new ArrayList<>();
        for (List<Integer> row : rows) {
            for (Integer v : row) {
                if (v != null) {
                    all.add(v);
                }
            }
        }
        all.sort(null);
        return all;
    }

    int scale(int d, int apart) {
        if (d < 1 || d > 2000 || apart < 1 || apart > 20) {
            return -1;
        }
        int found = 2000;
        while (found > 0 && d / found < apart) {
            found--;
        }
        List<Integer> all = allValues();
        if (all.isEmpty() || found == 0 || (all.get(all.size() - 1) - all.get(0)) / found + 1 > 60) {
            return -2;
        }
        g = found;
        return g;
    }

    int height(int row, int step) {
        return g == 0 || valueAt(row, step) == null ? -1 : (valueAt(row, step) - allValues().get(0)) / g;
    }

    /** The SLOTS by ROW (-1 without a TONE), and in place 4 the cost. */
    int[] laying(int step) {
        int[] best = null;
        for (int code = 0; code < 625; code++) {
            int[] slots = {code / 125, code / 25 % 5, code / 5 % 5, code % 5, 0};
            if (isLaying(slots, step) && (best == null || slots[4] < best[4])) {
                best = slots;
            }
        }
        for (int row = 0; row < 4; row++) {
            if (valueAt(row, step) == null) {
                best[row] = -1;
            }
        }
        return best;
    }

    private boolean isLaying(int[] slots, int step) {
        for (int row = 0; row < 4; row++) {
            if (valueAt(row, step) == null) {
                if (slots[row] != 0) {
                    return false;
                }
                continue;
            }
            slots[4] += slots[row] == 4 ? worth[row] : slots[row] * late;
            for (int other = 0; other < row; other++) {
                if (slots[other] == slots[row] && slots[row] != 4 && valueAt(other, step) != null
                    && Math.abs(height(row, step) - height(other, step)) < hide) {
                    return false;
                }
            }
        }
        return true;
    }

    int hears(int a, int b, int step) {
        if (!areRows(a, b) || g == 0 || step < 0 || step > 39) {
            return -2;
        }
        int[] slots = laying(step);
        if (slots[a] < 0 || slots[a] == 4 || slots[b] < 0 || slots[b] == 4) {
            return 0;
        }
        int lowA = g * height(a, step) - miss[a];
        int highA = g * height(a, step) + g - 1 + miss[a];
        int lowB = g * height(b, step) - miss[b];
        int highB = g * height(b, step) + g - 1 + miss[b];
        return lowA > highB ? 1 : lowB > highA ? -1 : 0;
    }

    int whole(int row, int beats, int k) {
        if (!isRow(row) || beats < 1 || beats > 200) {
            return -1;
        }
        List<Span> spans = spans(row, new int[1]);
        if (k < 0 || k >= spans.size() || beats < spans.size()) {
            return -1;
        }
        int all = 0;
        for (Span span : spans) {
            all += span.last - span.first;
        }
        int left = beats - spans.size();
        int lacks = left;
        int[] got = new int[spans.size()];
        int[] rests = new int[spans.size()];
        for (int i = 0; i < got.length; i++) {
            int ways = spans.get(i).last - spans.get(i).first;
            got[i] = left * ways / all;
            rests[i] = left * ways - got[i] * all;
            lacks -= got[i];
        }
        for (; lacks > 0; lacks--) {
            int greatest = 0;
            for (int i = 1; i < rests.length; i++) {
                if (rests[i] > rests[greatest]) {
                    greatest = i;
                }
            }
            got[greatest]++;
            rests[greatest] = -1;
        }
        return got[k] + 1;
    }

    int seek(boolean on, int what) {
        if (walkRow < 0 || what < 0 || what > 2) {
            return -1;
        }
        List<Integer> turns = turns(walkRow);
        for (int step = walkStep + (on ? 1 : -1); isStep(walkRow, step); step += on ? 1 : -1) {
            boolean hit = what == 0 ? turns.contains(step)
                : what == 1 ? crossesAny(step) : valueAt(walkRow, step) == null;
            if (hit) {
                walkStep = step;
                return step;
            }
        }
        return -1;
    }

    private boolean crossesAny(int step) {
        for (int other = 0; other < 4; other++) {
            if (other != walkRow && crossings(walkRow, other).contains(step)) {
                return true;
            }
        }
        return false;
    }
}
