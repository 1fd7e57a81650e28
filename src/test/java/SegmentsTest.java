/** Promises 6, 17, 18 and 19: which segments a refresh makes, segments, segment, told. */
public final class SegmentsTest {
    private static final Due DUE = new Due("SegmentsTest");

    public static void main(String[] args) {
        rowsByRisingKeys();
        onlyWhatLivesGetsARow();
        deadSegmentsAreLeftOut();
        fewestTogetherMerge();
        mergeLeavesDeadRowsBehind();
        newSegmentMayMergeAtOnce();
        segmentsThere();
        refused();
        DUE.end();
    }

    private static void writeAll(LiveViews x, int... keys) {
        for (int key : keys) {
            x.write(key, 1, -1);
        }
    }

    private static void segmentIs(LiveViews x, int view, int i, int made, int live, int... keys) {
        String which = "segment " + i + " of view " + view + ": ";
        DUE.is(which + "number", x.segment(view, i, 0), made);
        DUE.is(which + "rows", x.segment(view, i, 1), keys.length);
        DUE.is(which + "live rows", x.segment(view, i, 2), live);
        for (int row = 0; row < keys.length; row++) {
            DUE.is(which + "row " + row, x.segment(view, i, 10 + row), keys[row]);
        }
        DUE.is(which + "no more rows", x.segment(view, i, 10 + keys.length), LiveViews.OUTSIDE);
    }

    private static void rowsByRisingKeys() {
        LiveViews x = new LiveViews();
        writeAll(x, 15, 3, 0, 8, 3);
        x.refresh();
        DUE.is("segments(1)", x.segments(1), 1);
        segmentIs(x, 1, 0, 0, 4, 0, 3, 8, 15);
        DUE.is("a key twice is one row", x.told(4), 4);
    }

    private static void onlyWhatLivesGetsARow() {
        LiveViews x = new LiveViews();
        writeAll(x, 1, 2);
        x.remove(1, -1);
        x.refresh();
        segmentIs(x, 1, 0, 0, 1, 2);
        writeAll(x, 5);
        x.remove(5, -1);
        x.refresh();
        DUE.is("no row: no segment", x.segments(2), 1);
        DUE.is("none was made", x.told(6), 1);
    }

    private static void deadSegmentsAreLeftOut() {
        LiveViews x = new LiveViews();
        writeAll(x, 1, 2);
        x.refresh();
        x.remove(1, -1);
        x.refresh();
        segmentIs(x, 2, 0, 0, 1, 1, 2);
        writeAll(x, 2);
        x.refresh();
        DUE.is("segments(3)", x.segments(3), 1);
        segmentIs(x, 3, 0, 1, 1, 2);
        x.remove(2, -1);
        x.refresh();
        DUE.is("segments(4)", x.segments(4), 0);
        DUE.is("there", x.told(5), 0);
        DUE.is("made", x.told(6), 2);
        DUE.is("copied", x.told(4), 3);
    }

    private static void fewestTogetherMerge() {
        LiveViews x = new LiveViews();
        writeAll(x, 0, 1, 2);
        x.refresh();
        writeAll(x, 3, 4);
        x.refresh();
        writeAll(x, 6, 5);
        x.refresh();
        writeAll(x, 7, 8);
        x.refresh();
        DUE.is("segments(4)", x.segments(4), 3);
        segmentIs(x, 4, 0, 0, 3, 0, 1, 2);
        segmentIs(x, 4, 1, 4, 4, 3, 4, 5, 6);
        segmentIs(x, 4, 2, 3, 2, 7, 8);
        DUE.is("copied", x.told(4), 13);
        DUE.is("made", x.told(6), 5);
        DUE.is("there", x.told(5), 3);
    }

    private static void mergeLeavesDeadRowsBehind() {
        LiveViews x = new LiveViews();
        writeAll(x, 0, 1, 2, 3);
        x.refresh();
        writeAll(x, 4, 5);
        x.refresh();
        writeAll(x, 6, 7);
        x.refresh();
        x.open(3);
        x.remove(0, -1);
        x.remove(1, -1);
        writeAll(x, 3, 9, 10);
        x.refresh();
        segmentIs(x, 4, 0, 4, 3, 2, 4, 5);
        segmentIs(x, 4, 1, 2, 2, 6, 7);
        segmentIs(x, 4, 2, 3, 3, 3, 9, 10);
        DUE.is("copied", x.told(4), 14);
        segmentIs(x, 3, 0, 0, 4, 0, 1, 2, 3);
        DUE.is("there", x.told(5), 5);
    }

    private static void newSegmentMayMergeAtOnce() {
        LiveViews x = new LiveViews();
        writeAll(x, 0, 1, 2);
        x.refresh();
        writeAll(x, 3, 4, 5);
        x.refresh();
        writeAll(x, 9);
        x.refresh();
        writeAll(x, 8);
        x.refresh();
        DUE.is("segments(4)", x.segments(4), 3);
        segmentIs(x, 4, 2, 4, 2, 8, 9);
        DUE.is("also what no view has was made", x.told(6), 5);
        DUE.is("but it is not there", x.told(5), 3);
        DUE.is("copied", x.told(4), 10);
    }

    private static void segmentsThere() {
        LiveViews x = new LiveViews();
        writeAll(x, 0);
        x.commit();
        writeAll(x, 1);
        x.refresh();
        x.open(2);
        DUE.is("a segment of two views counts once", x.told(5), 2);
        DUE.is("and each time anew", x.told(5), 2);
        x.remove(0, -1);
        x.remove(1, -1);
        x.refresh();
        DUE.is("held by the commit and an opened view", x.told(5), 2);
        x.close(2);
        DUE.is("held by the commit", x.told(5), 1);
        DUE.is("views held", x.told(7), 2);
        x.commit();
        DUE.is("held by none", x.told(5), 0);
        DUE.is("views held", x.told(7), 1);
    }

    private static void refused() {
        LiveViews x = new LiveViews();
        writeAll(x, 0, 1);
        x.refresh();
        int[] noViews = {-1, 2, 149, 150, Integer.MIN_VALUE, Integer.MAX_VALUE};
        for (int view : noViews) {
            DUE.is("segments(" + view + ")", x.segments(view), LiveViews.UNKNOWN);
            DUE.is("segment(" + view + ", 0, 0)", x.segment(view, 0, 0), LiveViews.UNKNOWN);
            DUE.is("UNKNOWN before OUTSIDE", x.segment(view, -1, -1), LiveViews.UNKNOWN);
        }
        int[] noSegments = {-1, 1, Integer.MIN_VALUE, Integer.MAX_VALUE};
        for (int i : noSegments) {
            DUE.is("segment(1, " + i + ", 0)", x.segment(1, i, 0), LiveViews.OUTSIDE);
        }
        DUE.is("segment(0, 0, 0)", x.segment(0, 0, 0), LiveViews.OUTSIDE);
        int[] noRows = {-1, 3, 9, 12, 26, Integer.MIN_VALUE, Integer.MAX_VALUE};
        for (int what : noRows) {
            DUE.is("segment(1, 0, " + what + ")", x.segment(1, 0, what), LiveViews.OUTSIDE);
        }
        int[] nothingToTell = {-1, 8, Integer.MIN_VALUE, Integer.MAX_VALUE};
        for (int what : nothingToTell) {
            DUE.is("told(" + what + ")", x.told(what), LiveViews.OUTSIDE);
        }
    }
}
