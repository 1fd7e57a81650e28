/** The bounds: 600 changes, 150 views, and what a call that is refused for room leaves. */
public final class RoomTest {
    private static final Due DUE = new Due("RoomTest");

    public static void main(String[] args) {
        changes();
        dropAllOrNone();
        views();
        commitWithoutRoom();
        crashWithoutRoom();
        crashThatNeedsNoView();
        DUE.end();
    }

    /** Drops make many changes with few calls. */
    private static LiveViews withChanges(int count) {
        LiveViews x = new LiveViews();
        while (x.told(3) + 32 <= count) {
            for (int key = 0; key < 16; key++) {
                x.write(key, 1, 0);
            }
            x.drop(x.refresh(), 0);
        }
        while (x.told(3) < count) {
            x.remove(0, -1);
        }
        return x;
    }

    private static void changes() {
        LiveViews x = withChanges(598);
        DUE.is("the 599th", x.write(3, 5, 0), 599);
        DUE.is("the 600th", x.write(4, 6, 0), 600);
        DUE.is("the 601st", x.write(5, 1, 0), LiveViews.ROOM);
        DUE.is("the 601st", x.remove(3, -1), LiveViews.ROOM);
        DUE.is("CONFLICT before ROOM", x.write(3, 1, 7), LiveViews.CONFLICT);
        DUE.is("conflict(2)", x.conflict(2), 599);
        DUE.is("CONFLICT before ROOM", x.remove(5, 7), LiveViews.CONFLICT);
        DUE.is("OUTSIDE before ROOM", x.write(16, 1, 0), LiveViews.OUTSIDE);
        DUE.is("OUTSIDE before ROOM", x.remove(0, -2), LiveViews.OUTSIDE);
        DUE.is("get(3)", x.get(3), 5);
        DUE.is("get(5)", x.get(5), 0);
        DUE.is("told(3)", x.told(3), 600);
        int view = x.refresh();
        DUE.is("a view of them all", x.find(view, 0), 2);
        DUE.is("a drop of one", x.drop(view, 1 | 4), LiveViews.ROOM);
        DUE.is("a drop of none", x.drop(view, 128), 0);
        DUE.is("a crash makes room", x.crash(), 600);
        DUE.is("the first", x.write(5, 1, 0), 1);
    }

    private static void dropAllOrNone() {
        LiveViews x = withChanges(595);
        x.write(0, 1, -1);
        x.write(1, 1, -1);
        x.write(2, 3, -1);
        int view = x.refresh();
        x.write(2, 3, -1);
        DUE.is("told(3)", x.told(3), 599);
        DUE.is("missed one", x.drop(view, 2), 0);
        DUE.is("missed one", x.conflict(0), 1);
        DUE.is("two are too many", x.drop(view, 0), LiveViews.ROOM);
        DUE.is("none is dropped", x.get(0), 1);
        DUE.is("none is dropped", x.get(1), 1);
        DUE.is("a refused one tells nothing", x.conflict(0), 1);
        x.drop(view, 128);
        DUE.is("a refused one tells nothing", x.drop(view, 0), LiveViews.ROOM);
        DUE.is("a refused one tells nothing", x.conflict(0), 0);
        DUE.is("told(3)", x.told(3), 599);
        int later = x.refresh();
        DUE.is("one fits", x.drop(later, 2), 1);
        DUE.is("told(3)", x.told(3), 600);
        DUE.is("what is missed needs no room", x.drop(later, 2), 0);
        DUE.is("missed one", x.conflict(0), 1);
    }

    private static LiveViews withViews(int count) {
        LiveViews x = new LiveViews();
        while (x.told(0) < count - 1) {
            x.write(0, 1, -1);
            x.refresh();
        }
        return x;
    }

    private static void views() {
        LiveViews x = withViews(149);
        DUE.is("told(0)", x.told(0), 148);
        x.write(1, 1, 0);
        DUE.is("the 150th", x.refresh(), 149);
        DUE.is("at(149, 1)", x.at(149, 1), 1);
        DUE.is("nothing new needs no room", x.refresh(), 149);
        x.write(2, 1, 0);
        DUE.is("the 151st", x.refresh(), LiveViews.ROOM);
        DUE.is("told(0)", x.told(0), 149);
        DUE.is("told(6)", x.told(6), 149);
        DUE.is("the latest stays", x.at(149, 1), 1);
        DUE.is("view 150", x.at(150, 1), LiveViews.UNKNOWN);
        DUE.is("changes go on", x.write(3, 1, 0), 151);
        DUE.is("open(149)", x.open(149), 1);
    }

    private static void commitWithoutRoom() {
        LiveViews x = withViews(150);
        x.write(1, 1, 0);
        DUE.is("commit()", x.commit(), LiveViews.ROOM);
        DUE.is("told(1)", x.told(1), 0);
        DUE.is("told(2)", x.told(2), 0);
        DUE.is("told(7)", x.told(7), 2);
        LiveViews y = withViews(150);
        DUE.is("nothing new needs no room", y.commit(), 149);
        DUE.is("told(1)", y.told(1), 149);
        DUE.is("told(2)", y.told(2), 149);
    }

    private static void crashWithoutRoom() {
        LiveViews x = withViews(150);
        x.open(149);
        x.sync();
        x.write(1, 1, 0);
        DUE.is("crash()", x.crash(), LiveViews.ROOM);
        DUE.is("get(1)", x.get(1), 1);
        DUE.is("told(3)", x.told(3), 150);
        DUE.is("told(0)", x.told(0), 149);
        DUE.is("opened still", x.close(149), 0);
    }

    private static void crashThatNeedsNoView() {
        LiveViews x = withViews(150);
        x.write(1, 1, 0);
        DUE.is("nothing is safe", x.crash(), 150);
        DUE.is("told(0)", x.told(0), 0);
        x.write(1, 1, 0);
        DUE.is("numbers of views are never given again", x.refresh(), LiveViews.ROOM);
        LiveViews y = withViews(150);
        y.commit();
        y.write(1, 1, 0);
        DUE.is("all safe is committed", y.crash(), 1);
        DUE.is("told(0)", y.told(0), 149);
    }
}
