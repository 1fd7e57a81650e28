import java.util.function.Supplier;
import java.util.function.ToIntFunction;

/**
 * "Calls answer, the first of these that fits: UNKNOWN .., OUTSIDE .., CONFLICT, ROOM ..; then
 * nothing changes, but for what conflict() tells.": each refusal of each call, alone and with
 * later ones that would fit too.
 */
public final class RefusalsTest {
    private static final Due DUE = new Due("RefusalsTest");
    private static final int NONE = LiveViews.NONE;
    private static final int UNKNOWN = LiveViews.UNKNOWN;
    private static final int OUTSIDE = LiveViews.OUTSIDE;
    private static final int CONFLICT = LiveViews.CONFLICT;
    private static final int ROOM = LiveViews.ROOM;

    /** Let go, let go, the next one, and such as can never be. */
    private static final int[] NOT_HELD = {0, 3, 5, -1, 149, 150, Integer.MIN_VALUE, Integer.MAX_VALUE};

    public static void main(String[] args) {
        unknown();
        unknownBeforeOutside();
        unknownBeforeRoom();
        outside();
        outsideBeforeConflict();
        outsideBeforeRoom();
        conflict();
        conflictBeforeRoom();
        conflictTellsOfItself();
        roomForChanges();
        roomForViews();
        noneIsNoRefusalOfBounds();
        askingChangesNothing();
        DUE.end();
    }

    private static void refused(Supplier<Calls> lead, int want, ToIntFunction<Calls> call) {
        Twins.refused(DUE, lead, call, want);
    }

    private static void refused(int want, ToIntFunction<Calls> call) {
        refused(Leads::withAllSorts, want, call);
    }

    /** 600 changes, of which 599 and 600 have written keys 3 and 4; the latest view has both. */
    private static Calls withAllChanges() {
        Calls x = Leads.withChanges(598);
        x.write(3, 5, 0);
        x.write(4, 6, 0);
        x.refresh();
        x.write(3, 5, 7);
        return x;
    }

    /** View 149 is the latest, opened; change 149 is safe, 150 is not. */
    private static Calls withAllViews() {
        Calls x = Leads.withViews(150);
        x.open(149);
        x.sync();
        x.write(1, 1, 0);
        return x;
    }

    private static void unknown() {
        DUE.to("UNKNOWN (a VIEW that is not HELD)");
        for (int view : NOT_HELD) {
            refused(UNKNOWN, x -> x.drop(view, 0));
            refused(UNKNOWN, x -> x.open(view));
            refused(UNKNOWN, x -> x.close(view));
            refused(UNKNOWN, x -> x.at(view, 0));
            refused(UNKNOWN, x -> x.find(view, 0));
            refused(UNKNOWN, x -> x.match(view, 0, 0, 0));
            refused(UNKNOWN, x -> x.segments(view));
            refused(UNKNOWN, x -> x.segment(view, 0, 0));
        }
    }

    private static void unknownBeforeOutside() {
        DUE.to("the first of these that fits: UNKNOWN, OUTSIDE");
        for (int view : NOT_HELD) {
            refused(UNKNOWN, x -> x.drop(view, 256));
            refused(UNKNOWN, x -> x.drop(view, -1));
            refused(UNKNOWN, x -> x.at(view, 16));
            refused(UNKNOWN, x -> x.at(view, -1));
            refused(UNKNOWN, x -> x.find(view, 256));
            refused(UNKNOWN, x -> x.find(view, -1));
            refused(UNKNOWN, x -> x.match(view, 256, 0, 0));
            refused(UNKNOWN, x -> x.match(view, 0, -1, 0));
            refused(UNKNOWN, x -> x.match(view, 0, 0, -1));
            refused(UNKNOWN, x -> x.segment(view, -1, 0));
            refused(UNKNOWN, x -> x.segment(view, 3, 0));
            refused(UNKNOWN, x -> x.segment(view, 0, 3));
            refused(UNKNOWN, x -> x.segment(view, 0, 26));
        }
    }

    private static void unknownBeforeRoom() {
        DUE.to("the first of these that fits: UNKNOWN, ROOM");
        refused(RefusalsTest::withAllChanges, UNKNOWN, x -> x.drop(1, 0));
        refused(RefusalsTest::withAllChanges, UNKNOWN, x -> x.drop(20, 0));
        refused(RefusalsTest::withAllChanges, UNKNOWN, x -> x.drop(1, 256));
    }

    private static void outside() {
        DUE.to("OUTSIDE (a number out of its bounds)");
        for (int key : new int[] {-1, 16, Integer.MIN_VALUE, Integer.MAX_VALUE}) {
            refused(OUTSIDE, x -> x.write(key, 1, NONE));
            refused(OUTSIDE, x -> x.remove(key, NONE));
            refused(OUTSIDE, x -> x.get(key));
            refused(OUTSIDE, x -> x.number(key));
            refused(OUTSIDE, x -> x.at(4, key));
        }
        for (int bits : new int[] {-1, 256, Integer.MIN_VALUE, Integer.MAX_VALUE}) {
            refused(OUTSIDE, x -> x.write(1, bits, NONE));
            refused(OUTSIDE, x -> x.drop(2, bits));
            refused(OUTSIDE, x -> x.find(2, bits));
            refused(OUTSIDE, x -> x.match(2, bits, 0, 0));
            refused(OUTSIDE, x -> x.match(2, 0, bits, 0));
        }
        refused(OUTSIDE, x -> x.write(1, 0, NONE));
        refused(OUTSIDE, x -> x.write(1, 1, -2));
        refused(OUTSIDE, x -> x.remove(1, -2));
        refused(OUTSIDE, x -> x.conflict(-1));
        refused(OUTSIDE, x -> x.conflict(3));
        refused(OUTSIDE, x -> x.close(4));
        refused(OUTSIDE, x -> x.segment(1, 1, 0));
        refused(OUTSIDE, x -> x.segment(1, -1, 0));
        refused(OUTSIDE, x -> x.segment(1, 0, -1));
        refused(OUTSIDE, x -> x.segment(1, 0, 3));
        refused(OUTSIDE, x -> x.segment(1, 0, 9));
        refused(OUTSIDE, x -> x.segment(1, 0, 13));
        refused(OUTSIDE, x -> x.told(-1));
        refused(OUTSIDE, x -> x.told(8));
    }

    private static void outsideBeforeConflict() {
        DUE.to("the first of these that fits: OUTSIDE, CONFLICT");
        refused(OUTSIDE, x -> x.write(1, 0, 99));
        refused(OUTSIDE, x -> x.write(1, 256, 99));
        refused(OUTSIDE, x -> x.write(-1, 1, 99));
        refused(OUTSIDE, x -> x.write(16, 1, 99));
        refused(OUTSIDE, x -> x.write(1, 1, -2));
        refused(OUTSIDE, x -> x.remove(-1, 99));
        refused(OUTSIDE, x -> x.remove(16, 99));
        refused(OUTSIDE, x -> x.remove(1, -2));
    }

    private static void outsideBeforeRoom() {
        DUE.to("the first of these that fits: OUTSIDE, ROOM");
        Supplier<Calls> full = RefusalsTest::withAllChanges;
        refused(full, OUTSIDE, x -> x.write(16, 1, NONE));
        refused(full, OUTSIDE, x -> x.write(0, 256, NONE));
        refused(full, OUTSIDE, x -> x.write(0, 0, NONE));
        refused(full, OUTSIDE, x -> x.write(0, 1, -2));
        refused(full, OUTSIDE, x -> x.write(16, 1, 99));
        refused(full, OUTSIDE, x -> x.remove(-1, NONE));
        refused(full, OUTSIDE, x -> x.remove(3, -2));
        refused(full, OUTSIDE, x -> x.drop(x.told(0), 256));
        refused(full, OUTSIDE, x -> x.drop(x.told(0), -1));
    }

    private static void conflict() {
        DUE.to("CONFLICT: it is another one; nothing changes, but for what conflict() tells");
        for (int expected : new int[] {0, 2, 6, 8, 601, Integer.MAX_VALUE}) {
            refused(CONFLICT, x -> x.write(1, 9, expected));
            refused(CONFLICT, x -> x.remove(1, expected));
        }
        for (int expected : new int[] {1, 5, 600}) {
            refused(CONFLICT, x -> x.write(0, 9, expected));
            refused(CONFLICT, x -> x.remove(0, expected));
            refused(CONFLICT, x -> x.write(15, 9, expected));
            refused(CONFLICT, x -> x.remove(15, expected));
        }
    }

    private static void conflictBeforeRoom() {
        DUE.to("the first of these that fits: CONFLICT, ROOM");
        Supplier<Calls> full = RefusalsTest::withAllChanges;
        refused(full, CONFLICT, x -> x.write(3, 1, 600));
        refused(full, CONFLICT, x -> x.write(3, 1, 0));
        refused(full, CONFLICT, x -> x.remove(4, 601));
        refused(full, CONFLICT, x -> x.remove(5, 600));
    }

    private static void conflictTellsOfItself() {
        DUE.to("nothing changes, but for what conflict() tells");
        Calls x = Leads.withAllSorts();
        x.write(1, 9, 600);
        DUE.is(x, x.conflict(0), 1);
        DUE.is(x, x.conflict(1), 600);
        DUE.is(x, x.conflict(2), 7);
        Calls y = withAllChanges();
        y.remove(4, 1);
        DUE.is(y, y.conflict(1), 1);
        DUE.is(y, y.conflict(2), 600);
        DUE.is(y, y.remove(4, 600), ROOM);
        DUE.is(y, y.conflict(1), 1);
        DUE.is(y, y.conflict(2), 600);
    }

    private static void roomForChanges() {
        DUE.to("ROOM (a 601st CHANGE..); then nothing changes");
        Supplier<Calls> full = RefusalsTest::withAllChanges;
        refused(full, ROOM, x -> x.write(0, 1, 0));
        refused(full, ROOM, x -> x.write(3, 1, 599));
        refused(full, ROOM, x -> x.write(4, 6, NONE));
        refused(full, ROOM, x -> x.remove(0, 0));
        refused(full, ROOM, x -> x.remove(3, 599));
        refused(full, ROOM, x -> x.remove(4, NONE));
        refused(full, ROOM, x -> x.drop(x.told(0), 0));
        refused(full, ROOM, x -> x.drop(x.told(0), 6));
    }

    private static void roomForViews() {
        DUE.to("ROOM (.. a 151st VIEW); then nothing changes");
        Supplier<Calls> full = RefusalsTest::withAllViews;
        refused(full, ROOM, Calls::refresh);
        refused(full, ROOM, Calls::commit);
        refused(full, ROOM, Calls::crash);
    }

    private static void noneIsNoRefusalOfBounds() {
        DUE.to("Promise 16: NONE: none such.. OUTSIDE: query, wish");
        for (int i : new int[] {-1, 3, 16, Integer.MIN_VALUE, Integer.MAX_VALUE}) {
            refused(NONE, x -> x.match(2, 0, 0, i));
        }
    }

    private static void askingChangesNothing() {
        DUE.to("Nothing is promised beyond the answers and state changes described above");
        Twins.changesNothing(DUE, Leads::withAllSorts, x -> {
            x.conflict(0);
            x.conflict(1);
            x.conflict(2);
            for (int what = 0; what <= 7; what++) {
                x.told(what);
                x.told(what);
            }
            for (int view = 0; view <= 5; view++) {
                x.at(view, 1);
                x.find(view, 1);
                x.match(view, 0, 1, 0);
                x.segments(view);
                x.segment(view, 0, 2);
            }
            x.get(1);
            x.number(1);
        });
    }
}
