import java.util.ArrayList;
import java.util.HashSet;
import java.util.List;
import java.util.Set;

/**
 * The document's words as plainly as they can be put: the whole log of changes is kept, and
 * everything is looked up in it anew. Nothing here is shared with the class under test.
 */
final class Model {
    private static final int NONE = -1, UNKNOWN = -2, OUTSIDE = -3, CONFLICT = -4, ROOM = -5;

    /** Words are 0 for a removal. */
    private record Change(int key, int words) { }

    private record Row(int key, int number) { }

    private record Segment(int id, List<Row> rows) { }

    private static final class View {
        int id;
        int number;
        List<Segment> segments = new ArrayList<>();
        int opened = 0;
    }

    private final List<Change> log = new ArrayList<>();
    private final List<View> all = new ArrayList<>();
    private View latest = new View();
    private View commit = latest;
    private int safe = 0;
    private int copied = 0;
    private int made = 0;
    private int missed = 0;
    private int expectedOne = NONE;
    private int foundOne = NONE;

    Model() {
        all.add(latest);
    }

    private int latestChange(int key, int upTo) {
        for (int number = upTo; number >= 1; number--) {
            if (log.get(number - 1).key() == key) {
                return number;
            }
        }
        return 0;
    }

    private int wordsAsOf(int key, int upTo) {
        int number = latestChange(key, upTo);
        return number == 0 ? 0 : log.get(number - 1).words();
    }

    private View held(int view) {
        if (view < 0 || view >= all.size()) {
            return null;
        }
        View v = all.get(view);
        return v == latest || v == commit || v.opened > 0 ? v : null;
    }

    private static boolean isBits(int bits) {
        return bits >= 0 && bits <= 255;
    }

    private static boolean isKey(int key) {
        return key >= 0 && key <= 15;
    }

    int write(int key, int words, int expected) {
        return words >= 1 && words <= 255 ? change(key, words, expected) : OUTSIDE;
    }

    int remove(int key, int expected) {
        return change(key, 0, expected);
    }

    private int change(int key, int words, int expected) {
        if (!isKey(key) || expected < NONE) {
            return OUTSIDE;
        }
        int found = wordsAsOf(key, log.size()) == 0 ? 0 : latestChange(key, log.size());
        if (expected != NONE && expected != found) {
            expectedOne = expected;
            foundOne = found;
            return CONFLICT;
        }
        if (log.size() == 600) {
            return ROOM;
        }
        log.add(new Change(key, words));
        return log.size();
    }

    private List<Integer> found(View v, int query) {
        List<Integer> keys = new ArrayList<>();
        for (int key = 0; key <= 15; key++) {
            int words = wordsAsOf(key, v.number);
            if (words != 0 && (words & query) == query) {
                keys.add(key);
            }
        }
        return keys;
    }

    int drop(int view, int query) {
        View v = held(view);
        if (v == null) {
            return UNKNOWN;
        }
        if (!isBits(query)) {
            return OUTSIDE;
        }
        List<Integer> keys = found(v, query);
        int fitting = keys.size();
        keys.removeIf(key -> latestChange(key, log.size()) != latestChange(key, v.number));
        if (log.size() + keys.size() > 600) {
            return ROOM;
        }
        for (int key : keys) {
            log.add(new Change(key, 0));
        }
        missed = fitting - keys.size();
        return keys.size();
    }

    int conflict(int what) {
        return what == 0 ? missed : what == 1 ? expectedOne : what == 2 ? foundOne : OUTSIDE;
    }

    private List<Row> live(Segment segment, int number) {
        List<Row> rows = new ArrayList<>();
        for (Row row : segment.rows()) {
            if (latestChange(row.key(), number) == row.number()) {
                rows.add(row);
            }
        }
        return rows;
    }

    private Segment make(List<Row> rows) {
        rows.sort((a, b) -> a.key() - b.key());
        copied += rows.size();
        made++;
        return new Segment(made - 1, rows);
    }

    private void toRefresh() {
        if (log.size() == latest.number) {
            return;
        }
        View v = new View();
        v.id = all.size();
        v.number = log.size();
        for (Segment segment : latest.segments) {
            if (!live(segment, v.number).isEmpty()) {
                v.segments.add(segment);
            }
        }
        List<Row> fresh = new ArrayList<>();
        for (int number = latest.number + 1; number <= v.number; number++) {
            Change change = log.get(number - 1);
            if (change.words() != 0 && latestChange(change.key(), v.number) == number) {
                fresh.add(new Row(change.key(), number));
            }
        }
        if (!fresh.isEmpty()) {
            v.segments.add(make(fresh));
        }
        while (v.segments.size() > 3) {
            merge(v);
        }
        all.add(v);
        latest = v;
    }

    private void merge(View v) {
        int best = -1;
        List<Row> fewest = null;
        for (int i = 0; i < v.segments.size() - 1; i++) {
            List<Row> rows = live(v.segments.get(i), v.number);
            rows.addAll(live(v.segments.get(i + 1), v.number));
            if (fewest == null || rows.size() < fewest.size()) {
                fewest = rows;
                best = i;
            }
        }
        v.segments.remove(best + 1);
        v.segments.set(best, make(fewest));
    }

    int refresh() {
        if (log.size() != latest.number && all.size() == 150) {
            return ROOM;
        }
        toRefresh();
        return latest.id;
    }

    int commit() {
        int view = refresh();
        if (view != ROOM) {
            commit = latest;
            safe = log.size();
        }
        return view;
    }

    int sync() {
        int count = log.size() - safe;
        safe = log.size();
        return count;
    }

    int crash() {
        if (safe != commit.number && all.size() == 150) {
            return ROOM;
        }
        int count = log.size() - safe;
        log.subList(safe, log.size()).clear();
        for (View v : all) {
            v.opened = 0;
        }
        latest = commit;
        toRefresh();
        return count;
    }

    int open(int view) {
        View v = held(view);
        return v == null ? UNKNOWN : ++v.opened;
    }

    int close(int view) {
        View v = held(view);
        return v == null ? UNKNOWN : v.opened == 0 ? OUTSIDE : --v.opened;
    }

    int get(int key) {
        return isKey(key) ? wordsAsOf(key, log.size()) : OUTSIDE;
    }

    int number(int key) {
        return isKey(key) ? latestChange(key, log.size()) : OUTSIDE;
    }

    int at(int view, int key) {
        View v = held(view);
        return v == null ? UNKNOWN : isKey(key) ? wordsAsOf(key, v.number) : OUTSIDE;
    }

    int find(int view, int query) {
        View v = held(view);
        return v == null ? UNKNOWN : isBits(query) ? found(v, query).size() : OUTSIDE;
    }

    int match(int view, int query, int wish, int i) {
        View v = held(view);
        if (v == null) {
            return UNKNOWN;
        }
        if (!isBits(query) || !isBits(wish)) {
            return OUTSIDE;
        }
        List<Integer> keys = found(v, query);
        keys.sort((a, b) -> {
            int more = Integer.bitCount(wordsAsOf(b, v.number) & wish)
                - Integer.bitCount(wordsAsOf(a, v.number) & wish);
            return more != 0 ? more : latestChange(b, v.number) - latestChange(a, v.number);
        });
        return i >= 0 && i < keys.size() ? keys.get(i) : NONE;
    }

    int segments(int view) {
        View v = held(view);
        return v == null ? UNKNOWN : v.segments.size();
    }

    int segment(int view, int i, int what) {
        View v = held(view);
        if (v == null) {
            return UNKNOWN;
        }
        if (i < 0 || i >= v.segments.size()) {
            return OUTSIDE;
        }
        Segment segment = v.segments.get(i);
        if (what >= 10 && what - 10 < segment.rows().size()) {
            return segment.rows().get(what - 10).key();
        }
        return what == 0 ? segment.id() : what == 1 ? segment.rows().size()
            : what == 2 ? live(segment, v.number).size() : OUTSIDE;
    }

    int told(int what) {
        Set<Integer> there = new HashSet<>();
        int views = 0;
        for (View v : all) {
            if (held(v.id) != null) {
                views++;
                v.segments.forEach(segment -> there.add(segment.id()));
            }
        }
        int[] answers = {latest.id, commit.id, safe, log.size(), copied, there.size(), made, views};
        return what >= 0 && what < answers.length ? answers[what] : OUTSIDE;
    }
}
