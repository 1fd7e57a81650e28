/** Promises 6, 10, 11, 14, 15 and 16: refresh, open, close, at, find, match. */
public final class ViewsTest {
    private static final Due DUE = new Due("ViewsTest");
    private static final int[] NO_VIEWS = {-1, 2, 149, 150, Integer.MIN_VALUE, Integer.MAX_VALUE};

    public static void main(String[] args) {
        refresh();
        heldViewsNeverChange();
        openAndClose();
        openAndCloseRefused();
        latestAndCommitAreHeldAnyway();
        at();
        find();
        match();
        matchRefused();
        DUE.end();
    }

    private static void refresh() {
        LiveViews x = new LiveViews();
        DUE.is("nothing new", x.refresh(), 0);
        x.write(0, 1, 0);
        DUE.is("a new view", x.refresh(), 1);
        DUE.is("nothing new", x.refresh(), 1);
        x.remove(5, 0);
        DUE.is("also a removal is new", x.refresh(), 2);
        DUE.is("told(0)", x.told(0), 2);
        DUE.is("view 0 is that of the commit", x.segments(0), 0);
        DUE.is("view 1 is let go", x.segments(1), LiveViews.UNKNOWN);
        DUE.is("views held", x.told(7), 2);
        x.write(0, 1, 99);
        DUE.is("a conflict is no change", x.refresh(), 2);
    }

    private static void heldViewsNeverChange() {
        LiveViews x = new LiveViews();
        x.write(0, 5, 0);
        x.write(1, 6, 0);
        x.refresh();
        x.open(1);
        x.write(0, 8, -1);
        x.remove(1, -1);
        x.write(2, 1, 0);
        x.refresh();
        DUE.is("at(1, 0)", x.at(1, 0), 5);
        DUE.is("at(1, 1)", x.at(1, 1), 6);
        DUE.is("at(1, 2)", x.at(1, 2), 0);
        DUE.is("find(1, 4)", x.find(1, 4), 2);
        DUE.is("match(1, 0, 0, 0)", x.match(1, 0, 0, 0), 1);
        DUE.is("segment(1, 0, 1)", x.segment(1, 0, 1), 2);
        DUE.is("live there still", x.segment(1, 0, 2), 2);
        DUE.is("at(2, 0)", x.at(2, 0), 8);
        DUE.is("at(2, 1)", x.at(2, 1), 0);
        DUE.is("at(2, 2)", x.at(2, 2), 1);
        DUE.is("find(2, 0)", x.find(2, 0), 2);
    }

    private static void openAndClose() {
        LiveViews x = new LiveViews();
        x.write(0, 1, 0);
        x.refresh();
        DUE.is("open", x.open(1), 1);
        DUE.is("open", x.open(1), 2);
        x.write(0, 2, -1);
        x.refresh();
        DUE.is("open what is not the latest", x.open(1), 3);
        DUE.is("close", x.close(1), 2);
        DUE.is("close", x.close(1), 1);
        DUE.is("held still", x.at(1, 0), 1);
        DUE.is("views held", x.told(7), 3);
        DUE.is("close", x.close(1), 0);
        DUE.is("let go", x.at(1, 0), LiveViews.UNKNOWN);
        DUE.is("it does not come back", x.open(1), LiveViews.UNKNOWN);
        DUE.is("nor can it be closed", x.close(1), LiveViews.UNKNOWN);
        DUE.is("views held", x.told(7), 2);
    }

    private static void openAndCloseRefused() {
        LiveViews x = new LiveViews();
        x.write(0, 1, 0);
        x.refresh();
        for (int view : NO_VIEWS) {
            DUE.is("open(" + view + ")", x.open(view), LiveViews.UNKNOWN);
            DUE.is("close(" + view + ")", x.close(view), LiveViews.UNKNOWN);
        }
        DUE.is("not opened", x.close(1), LiveViews.OUTSIDE);
        DUE.is("not opened", x.close(0), LiveViews.OUTSIDE);
        DUE.is("a refused close is none", x.open(1), 1);
    }

    private static void latestAndCommitAreHeldAnyway() {
        LiveViews x = new LiveViews();
        x.write(0, 1, 0);
        x.commit();
        DUE.is("view 0 is let go", x.open(0), LiveViews.UNKNOWN);
        x.open(1);
        x.close(1);
        DUE.is("closed, yet the latest", x.at(1, 0), 1);
        x.write(0, 2, 1);
        x.refresh();
        x.open(1);
        DUE.is("closed, yet that of the commit", x.close(1), 0);
        DUE.is("closed, yet that of the commit", x.at(1, 0), 1);
        x.open(1);
        DUE.is("commit()", x.commit(), 2);
        DUE.is("opened, no more that of the commit", x.at(1, 0), 1);
        x.close(1);
        DUE.is("let go", x.at(1, 0), LiveViews.UNKNOWN);
    }

    private static void at() {
        LiveViews x = new LiveViews();
        x.write(15, 9, 0);
        x.refresh();
        x.write(15, 8, 1);
        DUE.is("at(1, 15)", x.at(1, 15), 9);
        DUE.is("at(1, 0)", x.at(1, 0), 0);
        DUE.is("at(0, 15)", x.at(0, 15), 0);
        DUE.is("at(1, -1)", x.at(1, -1), LiveViews.OUTSIDE);
        DUE.is("at(1, 16)", x.at(1, 16), LiveViews.OUTSIDE);
        for (int view : NO_VIEWS) {
            DUE.is("at(" + view + ", 0)", x.at(view, 0), LiveViews.UNKNOWN);
            DUE.is("UNKNOWN before OUTSIDE", x.at(view, 16), LiveViews.UNKNOWN);
        }
    }

    private static void find() {
        LiveViews x = new LiveViews();
        x.write(0, 1, 0);
        x.write(7, 3, 0);
        x.write(15, 255, 0);
        x.write(3, 128, 0);
        x.remove(3, 4);
        x.refresh();
        DUE.is("all that live", x.find(1, 0), 3);
        DUE.is("one word", x.find(1, 1), 3);
        DUE.is("two words", x.find(1, 3), 2);
        DUE.is("all words", x.find(1, 255), 1);
        DUE.is("none of view 0", x.find(0, 0), 0);
        DUE.is("query -1", x.find(1, -1), LiveViews.OUTSIDE);
        DUE.is("query 256", x.find(1, 256), LiveViews.OUTSIDE);
        for (int view : NO_VIEWS) {
            DUE.is("find(" + view + ", 0)", x.find(view, 0), LiveViews.UNKNOWN);
            DUE.is("UNKNOWN before OUTSIDE", x.find(view, 256), LiveViews.UNKNOWN);
        }
    }

    private static void match() {
        LiveViews x = new LiveViews();
        x.write(5, 1 | 2 | 4, 0);
        x.write(9, 1 | 8, 0);
        x.write(2, 1 | 2, 0);
        x.write(12, 1 | 4, 0);
        x.write(0, 2 | 4, 0);
        x.refresh();
        int[] byWish = {5, 12, 2, 9};
        int[] byTime = {12, 2, 9, 5};
        for (int i = 0; i < 4; i++) {
            DUE.is("match(1, 1, 6, " + i + ")", x.match(1, 1, 6, i), byWish[i]);
            DUE.is("match(1, 1, 0, " + i + ")", x.match(1, 1, 0, i), byTime[i]);
        }
        DUE.is("one too far", x.match(1, 1, 6, 4), LiveViews.NONE);
        DUE.is("the latest of all", x.match(1, 0, 0, 0), 0);
        DUE.is("the first of all", x.match(1, 0, 0, 4), 5);
        x.write(9, 1 | 8, -1);
        DUE.is("as of the view", x.match(1, 1, 0, 0), 12);
        x.refresh();
        DUE.is("written again is later", x.match(2, 1, 0, 0), 9);
        DUE.is("more words go before later", x.match(2, 1, 6, 0), 5);
    }

    private static void matchRefused() {
        LiveViews x = new LiveViews();
        x.write(0, 1, 0);
        x.refresh();
        int[] noPlaces = {-1, 1, 16, Integer.MIN_VALUE, Integer.MAX_VALUE};
        for (int i : noPlaces) {
            DUE.is("match(1, 0, 0, " + i + ")", x.match(1, 0, 0, i), LiveViews.NONE);
            DUE.is("OUTSIDE before NONE", x.match(1, 256, 0, i), LiveViews.OUTSIDE);
        }
        DUE.is("query -1", x.match(1, -1, 0, 0), LiveViews.OUTSIDE);
        DUE.is("wish -1", x.match(1, 0, -1, 0), LiveViews.OUTSIDE);
        DUE.is("wish 256", x.match(1, 0, 256, 0), LiveViews.OUTSIDE);
        DUE.is("wish 255", x.match(1, 0, 255, 0), 0);
        for (int view : NO_VIEWS) {
            DUE.is("match(" + view + ", ..)", x.match(view, 0, 0, 0), LiveViews.UNKNOWN);
            DUE.is("UNKNOWN before OUTSIDE", x.match(view, 256, 256, 0), LiveViews.UNKNOWN);
        }
    }
}
