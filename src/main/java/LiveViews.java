/**
 * Views of an index that changes all the time; ../shared/DOC.md says what each call promises.
 *
 * What all keys are is held as whole pictures (State): one of now, one of what is safe, and one
 * in each view. So a crash is a copy of a picture, and a held view can't be touched by what
 * comes later, not even by changes that are given the same numbers again behind a crash.
 */
public final class LiveViews {
    public static final int NONE = -1, UNKNOWN = -2, OUTSIDE = -3, CONFLICT = -4, ROOM = -5;

    private static final int KEYS = 16;
    private static final int ALL_WORDS = 255;
    private static final int MOST_CHANGES = 600;
    private static final int MOST_VIEWS = 150;
    private static final int MOST_SEGMENTS = 3;
    private static final int FIRST_ROW = 10;

    /** What every key is, as of the number of a change. */
    private static final class State {
        private int asOf = 0;
        private final int[] changes = new int[KEYS];
        private final int[] words = new int[KEYS];

        /** No words stand for a key that was removed: it does not live. */
        private int change(int key, int newWords) {
            asOf++;
            changes[key] = asOf;
            words[key] = newWords;
            return asOf;
        }

        private void copyFrom(State other) {
            asOf = other.asOf;
            System.arraycopy(other.changes, 0, changes, 0, KEYS);
            System.arraycopy(other.words, 0, words, 0, KEYS);
        }

        private boolean lives(int key) {
            return words[key] != 0;
        }

        private int writtenAs(int key) {
            return lives(key) ? changes[key] : 0;
        }

        private boolean fits(int key, int query) {
            return lives(key) && (words[key] & query) == query;
        }

        /** No two living keys have the same rank, as no two have the same change. */
        private int rank(int key, int wish) {
            return Integer.bitCount(words[key] & wish) * (MOST_CHANGES + 1) + changes[key];
        }

        private int countBefore(int key, int query, int wish) {
            int count = 0;
            for (int other = 0; other < KEYS; other++) {
                if (fits(other, query) && rank(other, wish) > rank(key, wish)) {
                    count++;
                }
            }
            return count;
        }
    }

    /** Rows by key: the number of the change that has written it, 0 where there is no row. */
    private static final class Segment {
        private final int made;
        private final int[] written = new int[KEYS];
        private int rows = 0;
        private int lastCounting = 0;

        private Segment(int made) {
            this.made = made;
        }

        private void put(int key, int change) {
            written[key] = change;
            rows++;
        }

        private boolean isLive(int key, State state) {
            return written[key] != 0 && written[key] == state.changes[key];
        }

        private int countLive(State state) {
            int count = 0;
            for (int key = 0; key < KEYS; key++) {
                if (isLive(key, state)) {
                    count++;
                }
            }
            return count;
        }

        private int keyOfRow(int row) {
            int left = row;
            for (int key = 0; key < KEYS; key++) {
                if (written[key] != 0) {
                    if (left == 0) {
                        return key;
                    }
                    left--;
                }
            }
            return NONE;
        }
    }

    private static final class View {
        private final int made;
        private final State state;
        private final Segment[] parts;
        private int opened = 0;

        private View(int made, State state, Segment[] parts) {
            this.made = made;
            this.state = state;
            this.parts = parts;
        }
    }

    private final State now = new State();
    private final State safe = new State();
    /** By number; null where a view is not held. */
    private final View[] views = new View[MOST_VIEWS];
    private int viewsMade = 1;
    private View latest;
    private View committed;
    private int segmentsMade = 0;
    private int copied = 0;
    private int missed = 0;
    private int conflictExpected = NONE;
    private int conflictFound = NONE;
    private int countings = 0;

    public LiveViews() {
        View first = new View(0, new State(), new Segment[0]);
        views[0] = first;
        latest = first;
        committed = first;
    }

    public int write(int key, int words, int expected) {
        if (!isKey(key) || words < 1 || words > ALL_WORDS || expected < NONE) {
            return OUTSIDE;
        }
        return change(key, words, expected);
    }

    public int remove(int key, int expected) {
        if (!isKey(key) || expected < NONE) {
            return OUTSIDE;
        }
        return change(key, 0, expected);
    }

    public int drop(int view, int query) {
        View held = heldView(view);
        if (held == null) {
            return UNKNOWN;
        }
        if (!isQuery(query)) {
            return OUTSIDE;
        }
        int fitting = countFitting(held.state, query);
        int unchanged = countUnchanged(held.state, query);
        if (now.asOf + unchanged > MOST_CHANGES) {
            return ROOM;
        }
        for (int key = 0; key < KEYS; key++) {
            if (isUnchanged(held.state, key, query)) {
                now.change(key, 0);
            }
        }
        missed = fitting - unchanged;
        return unchanged;
    }

    public int conflict(int what) {
        switch (what) {
            case 0: return missed;
            case 1: return conflictExpected;
            case 2: return conflictFound;
            default: return OUTSIDE;
        }
    }

    public int refresh() {
        if (!hasRoomToRefresh(latest, now)) {
            return ROOM;
        }
        refreshLatest();
        letGo();
        return latest.made;
    }

    public int commit() {
        if (!hasRoomToRefresh(latest, now)) {
            return ROOM;
        }
        refreshLatest();
        committed = latest;
        safe.copyFrom(now);
        letGo();
        return latest.made;
    }

    public int sync() {
        int unsafe = now.asOf - safe.asOf;
        safe.copyFrom(now);
        return unsafe;
    }

    public int crash() {
        if (!hasRoomToRefresh(committed, safe)) {
            return ROOM;
        }
        int lost = now.asOf - safe.asOf;
        now.copyFrom(safe);
        closeAll();
        latest = committed;
        refreshLatest();
        letGo();
        return lost;
    }

    public int open(int view) {
        View held = heldView(view);
        if (held == null) {
            return UNKNOWN;
        }
        held.opened++;
        return held.opened;
    }

    public int close(int view) {
        View held = heldView(view);
        if (held == null) {
            return UNKNOWN;
        }
        if (held.opened == 0) {
            return OUTSIDE;
        }
        held.opened--;
        letGo();
        return held.opened;
    }

    public int get(int key) {
        return isKey(key) ? now.words[key] : OUTSIDE;
    }

    public int number(int key) {
        return isKey(key) ? now.changes[key] : OUTSIDE;
    }

    public int at(int view, int key) {
        View held = heldView(view);
        if (held == null) {
            return UNKNOWN;
        }
        return isKey(key) ? held.state.words[key] : OUTSIDE;
    }

    public int find(int view, int query) {
        View held = heldView(view);
        if (held == null) {
            return UNKNOWN;
        }
        return isQuery(query) ? countFitting(held.state, query) : OUTSIDE;
    }

    public int match(int view, int query, int wish, int i) {
        View held = heldView(view);
        if (held == null) {
            return UNKNOWN;
        }
        if (!isQuery(query) || !isQuery(wish)) {
            return OUTSIDE;
        }
        State state = held.state;
        for (int key = 0; key < KEYS; key++) {
            if (state.fits(key, query) && state.countBefore(key, query, wish) == i) {
                return key;
            }
        }
        return NONE;
    }

    public int segments(int view) {
        View held = heldView(view);
        return held == null ? UNKNOWN : held.parts.length;
    }

    public int segment(int view, int i, int what) {
        View held = heldView(view);
        if (held == null) {
            return UNKNOWN;
        }
        if (i < 0 || i >= held.parts.length) {
            return OUTSIDE;
        }
        Segment part = held.parts[i];
        switch (what) {
            case 0: return part.made;
            case 1: return part.rows;
            case 2: return part.countLive(held.state);
            default: return keyOrOutside(part, what);
        }
    }

    public int told(int what) {
        switch (what) {
            case 0: return latest.made;
            case 1: return committed.made;
            case 2: return safe.asOf;
            case 3: return now.asOf;
            case 4: return copied;
            case 5: return countSegmentsThere();
            case 6: return segmentsMade;
            case 7: return countHeld();
            default: return OUTSIDE;
        }
    }

    private static boolean isKey(int key) {
        return key >= 0 && key < KEYS;
    }

    private static boolean isQuery(int query) {
        return query >= 0 && query <= ALL_WORDS;
    }

    private static int keyOrOutside(Segment part, int what) {
        if (what < FIRST_ROW || what - FIRST_ROW >= part.rows) {
            return OUTSIDE;
        }
        return part.keyOfRow(what - FIRST_ROW);
    }

    private View heldView(int view) {
        return view >= 0 && view < MOST_VIEWS ? views[view] : null;
    }

    private int change(int key, int words, int expected) {
        int found = now.writtenAs(key);
        if (expected != NONE && expected != found) {
            conflictExpected = expected;
            conflictFound = found;
            return CONFLICT;
        }
        if (now.asOf >= MOST_CHANGES) {
            return ROOM;
        }
        return now.change(key, words);
    }

    private boolean isUnchanged(State state, int key, int query) {
        return state.fits(key, query) && state.changes[key] == now.changes[key];
    }

    private int countUnchanged(State state, int query) {
        int count = 0;
        for (int key = 0; key < KEYS; key++) {
            if (isUnchanged(state, key, query)) {
                count++;
            }
        }
        return count;
    }

    private static int countFitting(State state, int query) {
        int count = 0;
        for (int key = 0; key < KEYS; key++) {
            if (state.fits(key, query)) {
                count++;
            }
        }
        return count;
    }

    private boolean hasRoomToRefresh(View view, State state) {
        return view.state.asOf == state.asOf || viewsMade < MOST_VIEWS;
    }

    /** Callers refuse first if there is no room; it is looked at here too, as an index rests on it. */
    private void refreshLatest() {
        if (latest.state.asOf == now.asOf || viewsMade >= MOST_VIEWS) {
            return;
        }
        Segment[] row = new Segment[latest.parts.length + 1];
        int count = 0;
        for (int i = 0; i < latest.parts.length; i++) {
            if (latest.parts[i].countLive(now) > 0) {
                row[count] = latest.parts[i];
                count++;
            }
        }
        if (hasNewRow()) {
            row[count] = segmentOfNewRows();
            count++;
        }
        for (; count > MOST_SEGMENTS; count--) {
            mergeFewest(row, count);
        }
        addView(firstOf(row, count));
    }

    private void addView(Segment[] parts) {
        State state = new State();
        state.copyFrom(now);
        latest = new View(viewsMade, state, parts);
        views[viewsMade] = latest;
        viewsMade++;
    }

    private static Segment[] firstOf(Segment[] row, int count) {
        Segment[] first = new Segment[count];
        for (int i = 0; i < count; i++) {
            first[i] = row[i];
        }
        return first;
    }

    private boolean isNewRow(int key) {
        return now.writtenAs(key) > latest.state.asOf;
    }

    private boolean hasNewRow() {
        for (int key = 0; key < KEYS; key++) {
            if (isNewRow(key)) {
                return true;
            }
        }
        return false;
    }

    private Segment segmentOfNewRows() {
        Segment made = makeSegment();
        for (int key = 0; key < KEYS; key++) {
            if (isNewRow(key)) {
                putRow(made, key);
            }
        }
        return made;
    }

    /** The two side by side with the fewest live rows become one, and the row closes up. */
    private void mergeFewest(Segment[] row, int count) {
        int best = 0;
        int fewest = KEYS + 1;
        for (int i = 0; i + 1 < count; i++) {
            int together = row[i].countLive(now) + row[i + 1].countLive(now);
            if (together < fewest) {
                fewest = together;
                best = i;
            }
        }
        row[best] = segmentOfLiveRows(row[best], row[best + 1]);
        for (int i = best + 1; i + 1 < count; i++) {
            row[i] = row[i + 1];
        }
    }

    private Segment segmentOfLiveRows(Segment left, Segment right) {
        Segment made = makeSegment();
        for (int key = 0; key < KEYS; key++) {
            if (left.isLive(key, now) || right.isLive(key, now)) {
                putRow(made, key);
            }
        }
        return made;
    }

    private Segment makeSegment() {
        Segment made = new Segment(segmentsMade);
        segmentsMade++;
        return made;
    }

    private void putRow(Segment part, int key) {
        part.put(key, now.changes[key]);
        copied++;
    }

    private void closeAll() {
        for (int view = 0; view < viewsMade; view++) {
            if (views[view] != null) {
                views[view].opened = 0;
            }
        }
    }

    /** A view that is held no more never comes back, so nothing of it needs to be kept. */
    private void letGo() {
        for (int i = 0; i < viewsMade; i++) {
            View view = views[i];
            if (view != null && view.opened == 0 && i != latest.made && i != committed.made) {
                views[i] = null;
            }
        }
    }

    private int countHeld() {
        int count = 0;
        for (int view = 0; view < viewsMade; view++) {
            if (views[view] != null) {
                count++;
            }
        }
        return count;
    }

    /** Views share segments: each is marked with this counting, so that it counts once. */
    private int countSegmentsThere() {
        countings++;
        int count = 0;
        for (int view = 0; view < viewsMade; view++) {
            if (views[view] != null) {
                count += markSegments(views[view]);
            }
        }
        return count;
    }

    private int markSegments(View view) {
        int count = 0;
        for (int i = 0; i < view.parts.length; i++) {
            Segment part = view.parts[i];
            if (part.lastCounting != countings) {
                part.lastCounting = countings;
                count++;
            }
        }
        return count;
    }
}
