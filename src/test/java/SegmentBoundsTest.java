/** What the document says of bounds of refreshing and in promises 17 to 19, sentence by sentence. */
public final class SegmentBoundsTest {
    private static final Due DUE = new Due("SegmentBoundsTest");
    private static final int UNKNOWN = LiveViews.UNKNOWN;
    private static final int OUTSIDE = LiveViews.OUTSIDE;

    public static void main(String[] args) {
        segmentsAreNumberedFrom0On();
        rowsByRisingKeys();
        rowIsLiveIfJustThat();
        segmentWithOneLiveRowStays();
        segmentWithNoLiveRowGoes();
        segmentsStayInTheirOrder();
        rowsForWhatWasChanged();
        noSuchKey();
        threeSegmentsStay();
        fourSegmentsBecomeThree();
        firstOfSeveral();
        fewestOfTheFirstTwo();
        fewestOfTheMiddleTwo();
        fewestOfTheLastTwo();
        fewestTogetherNotAlone();
        fewestLiveRowsNotRows();
        mergedRowsInTheirPlace();
        goneSegmentsMakeRoom();
        copiedIsHowManyRows();
        segmentIsThereAsLongAsAViewHasIt();
        segmentsOfAView();
        segmentsUnknown();
        segmentNone();
        segmentWhats();
        segmentRows();
        segmentUnknown();
        toldWhats();
        toldAtFirst();
        DUE.end();
    }

    private static void partIs(Calls x, int view, int i, int made, int live, int... keys) {
        DUE.is(x, x.segment(view, i, 0), made);
        DUE.is(x, x.segment(view, i, 1), keys.length);
        DUE.is(x, x.segment(view, i, 2), live);
        for (int row = 0; row < keys.length; row++) {
            DUE.is(x, x.segment(view, i, 10 + row), keys[row]);
        }
        DUE.is(x, x.segment(view, i, 10 + keys.length), OUTSIDE);
    }

    /** A segment for each list of keys; the views are numbered from 1 on. */
    private static Calls withSegments(int[]... lists) {
        Calls x = new Calls();
        for (int[] keys : lists) {
            Leads.writeAll(x, keys);
            x.refresh();
        }
        return x;
    }

    private static int[] keys(int... keys) {
        return keys;
    }

    private static void segmentsAreNumberedFrom0On() {
        DUE.to("Terms: SEGMENTS are numbered from 0 on as they are made");
        Calls x = new Calls();
        for (int made = 0; made <= 20; made++) {
            x.write(0, 1, -1);
            x.refresh();
            DUE.is(x, x.segment(made + 1, 0, 0), made);
            DUE.is(x, x.told(6), made + 1);
        }
        x.remove(0, -1);
        x.refresh();
        DUE.is(x, x.told(6), 21);
    }

    private static void rowsByRisingKeys() {
        DUE.to("Terms: by rising KEYS");
        Calls x = withSegments(keys(15, 0, 8, 7, 1));
        partIs(x, 1, 0, 0, 5, 0, 1, 7, 8, 15);
    }

    private static void rowIsLiveIfJustThat() {
        DUE.to("Terms: A ROW .. is LIVE in it if the KEY's latest CHANGE up to the VIEW's NUMBER is just that");
        Calls x = withSegments(keys(0, 1, 2));
        x.open(1);
        x.write(0, 1, 1);
        x.remove(1, 2);
        DUE.is(x, x.segment(1, 0, 2), 3);
        x.refresh();
        DUE.is(x, x.segment(1, 0, 2), 3);
        DUE.is(x, x.segment(2, 0, 2), 1);
        DUE.is(x, x.segment(2, 0, 1), 3);
        x.open(2);
        x.write(2, 1, 3);
        x.refresh();
        DUE.is(x, x.segment(2, 0, 2), 1);
    }

    private static void segmentWithOneLiveRowStays() {
        DUE.to("Terms: those SEGMENTS of the one before that still have a LIVE ROW (one)");
        Calls x = withSegments(Leads.keys(0, 15));
        Leads.removeAll(x, Leads.keys(0, 14));
        x.refresh();
        DUE.is(x, x.segments(2), 1);
        partIs(x, 2, 0, 0, 1, Leads.keys(0, 15));
    }

    private static void segmentWithNoLiveRowGoes() {
        DUE.to("Terms: those SEGMENTS of the one before that still have a LIVE ROW (none)");
        Calls x = withSegments(Leads.keys(0, 15));
        Leads.removeAll(x, Leads.keys(0, 15));
        x.refresh();
        DUE.is(x, x.segments(2), 0);
        DUE.is(x, x.told(5), 0);
        Calls y = withSegments(keys(4));
        y.write(4, 2, 1);
        y.refresh();
        DUE.is(y, y.segments(2), 1);
        partIs(y, 2, 0, 1, 1, 4);
    }

    private static void segmentsStayInTheirOrder() {
        DUE.to("Terms: in their order; then a new SEGMENT");
        for (int gone = 0; gone <= 2; gone++) {
            Calls x = withSegments(keys(9), keys(5), keys(1));
            x.remove(9 - 4 * gone, -1);
            x.write(0, 1, -1);
            x.refresh();
            DUE.is(x, x.segments(4), 3);
            partIs(x, 4, 0, gone == 0 ? 1 : 0, 1, gone == 0 ? 5 : 9);
            partIs(x, 4, 1, gone == 2 ? 1 : 2, 1, gone == 2 ? 5 : 1);
            partIs(x, 4, 2, 3, 1, 0);
        }
    }

    private static void rowsForWhatWasChanged() {
        DUE.to("Terms: a ROW for each KEY that was changed behind the one before and LIVES");
        Calls x = withSegments(keys(0, 1, 2));
        x.write(1, 1, 2);
        x.write(5, 1, 0);
        x.remove(0, 1);
        x.write(6, 1, 0);
        x.remove(6, 7);
        x.remove(7, 0);
        x.write(7, 1, 0);
        x.refresh();
        partIs(x, 2, 0, 0, 1, 0, 1, 2);
        partIs(x, 2, 1, 1, 3, 1, 5, 7);
        Calls y = withSegments(Leads.keys(0, 15));
        partIs(y, 1, 0, 0, 16, Leads.keys(0, 15));
    }

    private static void noSuchKey() {
        DUE.to("Terms: (none, if there is no such KEY)");
        Calls x = new Calls();
        x.remove(0, 0);
        DUE.is(x, x.refresh(), 1);
        DUE.is(x, x.segments(1), 0);
        x.write(0, 1, 0);
        x.remove(0, 2);
        DUE.is(x, x.refresh(), 2);
        DUE.is(x, x.segments(2), 0);
        DUE.is(x, x.told(6), 0);
        DUE.is(x, x.told(4), 0);
        x.write(0, 1, 0);
        DUE.is(x, x.refresh(), 3);
        DUE.is(x, x.segments(3), 1);
        DUE.is(x, x.segment(3, 0, 0), 0);
    }

    private static void threeSegmentsStay() {
        DUE.to("Terms: as long as it has more than 3 SEGMENTS (3)");
        Calls x = withSegments(keys(0), keys(1), keys(2));
        DUE.is(x, x.segments(1), UNKNOWN);
        DUE.is(x, x.segments(3), 3);
        for (int i = 0; i <= 2; i++) {
            partIs(x, 3, i, i, 1, i);
        }
        DUE.is(x, x.told(4), 3);
        DUE.is(x, x.told(6), 3);
    }

    private static void fourSegmentsBecomeThree() {
        DUE.to("Terms: as long as it has more than 3 SEGMENTS (4)");
        Calls x = new Calls();
        for (int key = 0; key <= 15; key++) {
            x.write(key, 1, 0);
            x.refresh();
            DUE.is(x, x.segments(key + 1), Math.min(key + 1, 3));
            DUE.is(x, x.find(key + 1, 0), key + 1);
            DUE.is(x, x.told(5), Math.min(key + 1, 3));
        }
    }

    private static void firstOfSeveral() {
        DUE.to("Terms: the ones with the fewest LIVE ROWS together, the first of several");
        Calls x = withSegments(keys(3), keys(2), keys(1), keys(0));
        partIs(x, 4, 0, 4, 2, 2, 3);
        partIs(x, 4, 1, 2, 1, 1);
        partIs(x, 4, 2, 3, 1, 0);
        Calls y = withSegments(keys(0, 1), keys(2), keys(3), keys(4));
        partIs(y, 4, 0, 0, 2, 0, 1);
        partIs(y, 4, 1, 4, 2, 2, 3);
        partIs(y, 4, 2, 3, 1, 4);
        Calls z = withSegments(keys(0), keys(1, 2), keys(3, 4), keys(5));
        partIs(z, 4, 0, 4, 3, 0, 1, 2);
        partIs(z, 4, 1, 2, 2, 3, 4);
        partIs(z, 4, 2, 3, 1, 5);
    }

    private static void fewestOfTheFirstTwo() {
        DUE.to("Terms: the ones with the fewest LIVE ROWS together (the first two)");
        Calls x = withSegments(keys(0), keys(1, 2), keys(3, 4), keys(5, 6));
        partIs(x, 4, 0, 4, 3, 0, 1, 2);
        partIs(x, 4, 1, 2, 2, 3, 4);
        partIs(x, 4, 2, 3, 2, 5, 6);
    }

    private static void fewestOfTheMiddleTwo() {
        DUE.to("Terms: the ones with the fewest LIVE ROWS together (the middle two)");
        Calls x = withSegments(keys(0, 1), keys(2), keys(3), keys(4, 5));
        partIs(x, 4, 0, 0, 2, 0, 1);
        partIs(x, 4, 1, 4, 2, 2, 3);
        partIs(x, 4, 2, 3, 2, 4, 5);
    }

    private static void fewestOfTheLastTwo() {
        DUE.to("Terms: the ones with the fewest LIVE ROWS together (the last two, of all 16 KEYS)");
        Calls x = withSegments(Leads.keys(0, 4), Leads.keys(5, 9), Leads.keys(10, 13), keys(14, 15));
        partIs(x, 4, 0, 0, 5, 0, 1, 2, 3, 4);
        partIs(x, 4, 1, 1, 5, 5, 6, 7, 8, 9);
        partIs(x, 4, 2, 4, 6, 10, 11, 12, 13, 14, 15);
        Calls y = withSegments(keys(0), Leads.keys(1, 7), Leads.keys(8, 14), keys(15));
        partIs(y, 4, 0, 4, 8, 0, 1, 2, 3, 4, 5, 6, 7);
        partIs(y, 4, 1, 2, 7, 8, 9, 10, 11, 12, 13, 14);
        partIs(y, 4, 2, 3, 1, 15);
    }

    private static void fewestTogetherNotAlone() {
        DUE.to("Terms: of each two side by side the ones with the fewest LIVE ROWS together (not alone)");
        Calls x = withSegments(keys(0), keys(1, 2, 3, 4), keys(5, 6), keys(7, 8));
        partIs(x, 4, 0, 0, 1, 0);
        partIs(x, 4, 1, 1, 4, 1, 2, 3, 4);
        partIs(x, 4, 2, 4, 4, 5, 6, 7, 8);
        Calls y = withSegments(keys(0, 1, 2), keys(3, 4, 5, 6), keys(7, 8), Leads.keys(9, 13));
        partIs(y, 4, 0, 0, 3, 0, 1, 2);
        partIs(y, 4, 1, 4, 6, 3, 4, 5, 6, 7, 8);
        partIs(y, 4, 2, 3, 5, 9, 10, 11, 12, 13);
        Calls z = withSegments(keys(0, 1), keys(2, 3), Leads.keys(4, 8), keys(9));
        partIs(z, 4, 0, 4, 4, 0, 1, 2, 3);
        partIs(z, 4, 1, 2, 5, 4, 5, 6, 7, 8);
        partIs(z, 4, 2, 3, 1, 9);
    }

    private static void fewestLiveRowsNotRows() {
        DUE.to("Terms: the fewest LIVE ROWS (not ROWS)");
        Calls x = withSegments(keys(0, 1), keys(2, 3), keys(4, 5, 6, 7));
        Leads.removeAll(x, 5, 6, 7);
        Leads.writeAll(x, 8);
        x.refresh();
        partIs(x, 4, 0, 0, 2, 0, 1);
        partIs(x, 4, 1, 1, 2, 2, 3);
        partIs(x, 4, 2, 4, 2, 4, 8);
        DUE.is(x, x.told(4), 11);
    }

    private static void mergedRowsInTheirPlace() {
        DUE.to("Terms: become one new SEGMENT of these ROWS, in their place");
        Calls x = withSegments(keys(9, 1, 5), keys(0, 7, 15), Leads.keys(10, 13));
        x.open(3);
        Leads.removeAll(x, 5, 15);
        Leads.writeAll(x, 2, 3, 4);
        x.refresh();
        partIs(x, 4, 0, 4, 4, 0, 1, 7, 9);
        partIs(x, 4, 1, 2, 4, 10, 11, 12, 13);
        partIs(x, 4, 2, 3, 3, 2, 3, 4);
        partIs(x, 3, 0, 0, 3, 1, 5, 9);
        partIs(x, 3, 1, 1, 3, 0, 7, 15);
        DUE.is(x, x.told(5), 5);
        DUE.is(x, x.told(6), 5);
    }

    private static void goneSegmentsMakeRoom() {
        DUE.to("Terms: Then, as long as it has more than 3 SEGMENTS (one has gone before)");
        Calls x = withSegments(keys(0), keys(1), keys(2));
        x.write(1, 1, 2);
        x.refresh();
        DUE.is(x, x.segments(4), 3);
        partIs(x, 4, 0, 0, 1, 0);
        partIs(x, 4, 1, 2, 1, 2);
        partIs(x, 4, 2, 3, 1, 1);
        DUE.is(x, x.told(6), 4);
        x.remove(2, -1);
        x.refresh();
        DUE.is(x, x.segments(5), 2);
        DUE.is(x, x.told(6), 4);
    }

    private static void copiedIsHowManyRows() {
        DUE.to("Terms: COPIED is how many ROWS were put into SEGMENTS in all");
        Calls x = new Calls();
        DUE.is(x, x.told(4), 0);
        Leads.writeAll(x, Leads.keys(0, 15));
        DUE.is(x, x.told(4), 0);
        x.refresh();
        DUE.is(x, x.told(4), 16);
        x.remove(0, -1);
        x.refresh();
        DUE.is(x, x.told(4), 16);
        Leads.writeAll(x, 0);
        x.refresh();
        Leads.writeAll(x, 1);
        x.refresh();
        DUE.is(x, x.told(4), 18);
        Leads.writeAll(x, 2, 3);
        x.refresh();
        DUE.is(x, x.told(4), 22);
    }

    private static void segmentIsThereAsLongAsAViewHasIt() {
        DUE.to("Terms: A SEGMENT is THERE as long as a HELD VIEW has it");
        Calls x = new Calls();
        DUE.is(x, x.told(5), 0);
        Leads.writeAll(x, 0);
        DUE.is(x, x.told(5), 0);
        x.commit();
        DUE.is(x, x.told(5), 1);
        x.open(1);
        x.remove(0, 1);
        x.refresh();
        DUE.is(x, x.told(5), 1);
        x.commit();
        DUE.is(x, x.told(5), 1);
        x.open(1);
        x.close(1);
        DUE.is(x, x.told(5), 1);
        x.close(1);
        DUE.is(x, x.told(5), 0);
        DUE.is(x, x.told(6), 1);
    }

    private static void segmentsOfAView() {
        DUE.to("Promise 17: How many SEGMENTS a VIEW has");
        Calls x = new Calls();
        DUE.is(x, x.segments(0), 0);
        for (int count = 1; count <= 3; count++) {
            Leads.writeAll(x, count);
            x.open(x.refresh());
        }
        for (int count = 0; count <= 3; count++) {
            DUE.is(x, x.segments(count), count);
        }
    }

    private static void segmentsUnknown() {
        DUE.to("Promise 17: UNKNOWN");
        Calls x = Leads.withAllSorts();
        for (int view : Bounds.NO_VIEWS) {
            DUE.is(x, x.segments(view), UNKNOWN);
        }
        DUE.is(x, x.segments(0), UNKNOWN);
        DUE.is(x, x.segments(1), 1);
        DUE.is(x, x.segments(2), 2);
        DUE.is(x, x.segments(3), UNKNOWN);
        DUE.is(x, x.segments(5), UNKNOWN);
    }

    private static void segmentNone() {
        DUE.to("Promise 18: Of SEGMENT i of a VIEW (from 0 on).. OUTSIDE: no such SEGMENT");
        Calls x = new Calls();
        DUE.is(x, x.segment(0, 0, 0), OUTSIDE);
        for (int count = 1; count <= 3; count++) {
            Leads.writeAll(x, count);
            int view = x.refresh();
            DUE.is(x, x.segment(view, 0, 0), 0);
            DUE.is(x, x.segment(view, count - 1, 0), count - 1);
            for (int i : Bounds.outside(0, count - 1)) {
                DUE.is(x, x.segment(view, i, 0), OUTSIDE);
                DUE.is(x, x.segment(view, i, 10), OUTSIDE);
            }
        }
    }

    private static void segmentWhats() {
        DUE.to("Promise 18: its number (what = 0), how many ROWS (1), LIVE ones in this VIEW (2).. OUTSIDE: what");
        Calls x = withSegments(keys(6, 8, 9));
        x.remove(8, -1);
        x.refresh();
        DUE.is(x, x.segment(2, 0, 0), 0);
        DUE.is(x, x.segment(2, 0, 1), 3);
        DUE.is(x, x.segment(2, 0, 2), 2);
        for (int what = 3; what <= 9; what++) {
            DUE.is(x, x.segment(2, 0, what), OUTSIDE);
        }
        for (int what : Bounds.outside(0, 12)) {
            DUE.is(x, x.segment(2, 0, what), OUTSIDE);
        }
    }

    private static void segmentRows() {
        DUE.to("Promise 18: the KEY of ROW what - 10 (10 and more).. OUTSIDE: ROW");
        for (int last = 0; last <= 15; last++) {
            Calls x = withSegments(Leads.keys(0, last));
            DUE.is(x, x.segment(1, 0, 9), OUTSIDE);
            for (int row = 0; row <= last; row++) {
                DUE.is(x, x.segment(1, 0, 10 + row), row);
            }
            DUE.is(x, x.segment(1, 0, 11 + last), OUTSIDE);
            DUE.is(x, x.segment(1, 0, 26), OUTSIDE);
            DUE.is(x, x.segment(1, 0, Integer.MAX_VALUE), OUTSIDE);
            DUE.is(x, x.segment(1, 0, Integer.MIN_VALUE + 10), OUTSIDE);
            DUE.is(x, x.segment(1, 0, Integer.MIN_VALUE + 9), OUTSIDE);
        }
        Calls y = withSegments(keys(15));
        DUE.is(y, y.segment(1, 0, 10), 15);
        DUE.is(y, y.segment(1, 0, 25), OUTSIDE);
    }

    private static void segmentUnknown() {
        DUE.to("Promise 18: UNKNOWN");
        Calls x = Leads.withAllSorts();
        for (int view : Bounds.NO_VIEWS) {
            DUE.is(x, x.segment(view, 0, 0), UNKNOWN);
        }
        DUE.is(x, x.segment(0, 0, 1), UNKNOWN);
        DUE.is(x, x.segment(1, 0, 1), 3);
        DUE.is(x, x.segment(2, 1, 1), 1);
        DUE.is(x, x.segment(3, 0, 1), UNKNOWN);
        DUE.is(x, x.segment(5, 0, 1), UNKNOWN);
    }

    private static void toldWhats() {
        DUE.to("Promise 19: (what = 0) .. (7). OUTSIDE");
        Calls x = Leads.withAllSorts();
        int[] answers = {4, 1, 7, 10, 8, 5, 5, 3};
        for (int what = 0; what <= 7; what++) {
            DUE.is(x, x.told(what), answers[what]);
        }
        for (int what : Bounds.outside(0, 7)) {
            DUE.is(x, x.told(what), OUTSIDE);
        }
    }

    private static void toldAtFirst() {
        DUE.to("Terms: THE COMMIT is a VIEW (0 at first). SAFE is a NUMBER (0 at first)");
        Calls x = new Calls();
        DUE.is(x, x.told(1), 0);
        DUE.is(x, x.told(2), 0);
        x.write(0, 1, 0);
        x.refresh();
        DUE.is(x, x.told(1), 0);
        DUE.is(x, x.told(2), 0);
        DUE.is(x, x.crash(), 1);
        DUE.is(x, x.told(0), 0);
    }
}
