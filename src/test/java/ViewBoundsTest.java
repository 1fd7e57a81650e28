/** What the document says of bounds in promises 6, 10, 11 and 14 to 16, sentence by sentence. */
public final class ViewBoundsTest {
    private static final Due DUE = new Due("ViewBoundsTest");
    private static final int NONE = LiveViews.NONE;
    private static final int UNKNOWN = LiveViews.UNKNOWN;
    private static final int OUTSIDE = LiveViews.OUTSIDE;

    public static void main(String[] args) {
        viewsAreNumberedFrom0On();
        view0TellsAsOf0();
        viewTellsAsOfTheLatestChange();
        noChangeBehindTheLatestView();
        latestIsHeld();
        commitIsHeld();
        openedMoreOftenThanClosed();
        numbersAreNeverGivenAgain();
        openAsOftenAsCallsGo();
        openUnknown();
        closeDownTo0();
        closeWhatIsNotOpened();
        closeUnknown();
        atWhatDoesNotLive();
        atUnknown();
        findQueries();
        findNothingAndAll();
        findOutside();
        findUnknown();
        matchPlaces();
        matchOfNothing();
        matchOfAll();
        matchByWords();
        matchOfAsManyTheLater();
        matchWishes();
        matchOutside();
        matchUnknown();
        DUE.end();
    }

    private static void viewsAreNumberedFrom0On() {
        DUE.to("Terms: VIEWS are numbered from 0 on");
        Calls x = new Calls();
        DUE.is(x, x.refresh(), 0);
        for (int view = 1; view <= 20; view++) {
            x.write(0, 1, NONE);
            DUE.is(x, x.at(view, 0), UNKNOWN);
            DUE.is(x, x.refresh(), view);
            DUE.is(x, x.at(view, 0), 1);
        }
    }

    private static void view0TellsAsOf0() {
        DUE.to("Terms: VIEW 0 (at first) has no SEGMENTS, and tells as of 0");
        Calls x = new Calls();
        x.write(0, 1, 0);
        DUE.is(x, x.at(0, 0), 0);
        DUE.is(x, x.find(0, 0), 0);
        x.refresh();
        DUE.is(x, x.at(0, 0), 0);
        DUE.is(x, x.segments(0), 0);
        DUE.is(x, x.segment(0, 0, 0), OUTSIDE);
    }

    private static void viewTellsAsOfTheLatestChange() {
        DUE.to("Terms: tells as of a NUMBER, that of the latest CHANGE when it was made");
        Calls x = new Calls();
        x.write(0, 1, 0);
        x.write(0, 2, 1);
        x.refresh();
        x.write(0, 3, 2);
        DUE.is(x, x.at(1, 0), 2);
        DUE.is(x, x.get(0), 3);
        x.remove(0, 3);
        DUE.is(x, x.at(1, 0), 2);
        x.write(1, 1, 0);
        DUE.is(x, x.at(1, 1), 0);
    }

    private static void noChangeBehindTheLatestView() {
        DUE.to("Terms: if there is no CHANGE behind the LATEST VIEW, nothing");
        Calls x = Leads.withKeys(0);
        DUE.is(x, x.refresh(), 1);
        DUE.is(x, x.refresh(), 1);
        x.write(0, 1, 9);
        x.write(0, 0, 1);
        DUE.is(x, x.refresh(), 1);
        x.sync();
        x.open(1);
        x.drop(0, 0);
        DUE.is(x, x.refresh(), 1);
        DUE.is(x, x.told(6), 1);
        DUE.is(x, x.told(7), 2);
        x.remove(9, 0);
        DUE.is(x, x.refresh(), 2);
        x.write(0, 1, 1);
        DUE.is(x, x.refresh(), 3);
    }

    private static void latestIsHeld() {
        DUE.to("Terms: HELD are the LATEST VIEW");
        Calls x = Leads.withKeys(0);
        x.refresh();
        DUE.is(x, x.at(1, 0), 1);
        x.write(0, 1, 1);
        DUE.is(x, x.at(1, 0), 1);
        x.refresh();
        DUE.is(x, x.at(1, 0), UNKNOWN);
        DUE.is(x, x.at(2, 0), 1);
        DUE.is(x, x.told(7), 2);
    }

    private static void commitIsHeld() {
        DUE.to("Terms: HELD are .. that of the COMMIT");
        Calls x = Leads.withKeys(0);
        DUE.is(x, x.commit(), 1);
        DUE.is(x, x.told(7), 1);
        DUE.is(x, x.at(0, 0), UNKNOWN);
        x.write(0, 2, 1);
        x.refresh();
        x.write(0, 3, 2);
        x.refresh();
        DUE.is(x, x.at(1, 0), 1);
        DUE.is(x, x.at(2, 0), UNKNOWN);
        DUE.is(x, x.told(7), 2);
        x.commit();
        DUE.is(x, x.at(1, 0), UNKNOWN);
        DUE.is(x, x.told(7), 1);
    }

    private static void openedMoreOftenThanClosed() {
        DUE.to("Terms: HELD are .. those that were opened more often than closed");
        Calls x = Leads.withKeys(0);
        x.refresh();
        x.open(1);
        x.open(1);
        x.close(1);
        x.write(0, 2, 1);
        x.refresh();
        DUE.is(x, x.at(1, 0), 1);
        DUE.is(x, x.told(7), 3);
        x.close(1);
        DUE.is(x, x.at(1, 0), UNKNOWN);
        DUE.is(x, x.told(7), 2);
        x.open(2);
        x.close(2);
        x.write(0, 3, 2);
        x.refresh();
        DUE.is(x, x.at(2, 0), UNKNOWN);
    }

    private static void numbersAreNeverGivenAgain() {
        DUE.to("Terms: VIEWS that are not HELD (any more) are not there, and their numbers are never given again");
        Calls x = Leads.withKeys(0);
        x.refresh();
        x.crash();
        DUE.is(x, x.at(1, 0), UNKNOWN);
        DUE.is(x, x.told(0), 0);
        x.write(0, 2, 0);
        DUE.is(x, x.refresh(), 2);
        DUE.is(x, x.at(1, 0), UNKNOWN);
        DUE.is(x, x.at(2, 0), 2);
        x.write(0, 3, 1);
        DUE.is(x, x.refresh(), 3);
        DUE.is(x, x.open(2), UNKNOWN);
        DUE.is(x, x.at(2, 0), UNKNOWN);
    }

    private static void openAsOftenAsCallsGo() {
        DUE.to("Promise 10: A VIEW is opened once more: how often it is now");
        Calls x = new Calls();
        for (int often = 1; often <= 512; often++) {
            DUE.is(x, x.open(0), often);
        }
    }

    private static void openUnknown() {
        DUE.to("Promise 10: UNKNOWN");
        Calls x = Leads.withAllSorts();
        for (int view : Bounds.NO_VIEWS) {
            DUE.is(x, x.open(view), UNKNOWN);
        }
        DUE.is(x, x.open(0), UNKNOWN);
        DUE.is(x, x.open(1), 2);
        DUE.is(x, x.open(2), 2);
        DUE.is(x, x.open(3), UNKNOWN);
        DUE.is(x, x.open(4), 1);
        DUE.is(x, x.open(5), UNKNOWN);
    }

    private static void closeDownTo0() {
        DUE.to("Promise 11: how often it is opened still");
        Calls x = new Calls();
        for (int often = 1; often <= 255; often++) {
            x.open(0);
        }
        for (int often = 254; often >= 0; often--) {
            DUE.is(x, x.close(0), often);
        }
        DUE.is(x, x.close(0), OUTSIDE);
    }

    private static void closeWhatIsNotOpened() {
        DUE.to("Promise 11: OUTSIDE: it is not opened");
        Calls x = new Calls();
        DUE.is(x, x.close(0), OUTSIDE);
        DUE.is(x, x.close(0), OUTSIDE);
        DUE.is(x, x.open(0), 1);
        DUE.is(x, x.close(0), 0);
        DUE.is(x, x.close(0), OUTSIDE);
        x.write(0, 1, 0);
        x.refresh();
        x.open(1);
        DUE.is(x, x.close(0), OUTSIDE);
        DUE.is(x, x.close(1), 0);
        DUE.is(x, x.close(1), OUTSIDE);
    }

    private static void closeUnknown() {
        DUE.to("Promise 11: UNKNOWN");
        Calls x = Leads.withAllSorts();
        for (int view : Bounds.NO_VIEWS) {
            DUE.is(x, x.close(view), UNKNOWN);
        }
        DUE.is(x, x.close(0), UNKNOWN);
        DUE.is(x, x.close(3), UNKNOWN);
        DUE.is(x, x.close(5), UNKNOWN);
        DUE.is(x, x.close(2), 0);
        DUE.is(x, x.close(2), UNKNOWN);
    }

    private static void atWhatDoesNotLive() {
        DUE.to("Promise 14: 0: it does not LIVE there");
        Calls x = Leads.withKeys(0, 15);
        x.remove(0, 1);
        x.refresh();
        x.write(0, 9, 0);
        x.write(1, 9, 0);
        x.remove(15, 2);
        DUE.is(x, x.at(1, 0), 0);
        DUE.is(x, x.at(1, 1), 0);
        DUE.is(x, x.at(1, 15), 1);
    }

    private static void atUnknown() {
        DUE.to("Promise 14: UNKNOWN");
        Calls x = Leads.withAllSorts();
        for (int view : Bounds.NO_VIEWS) {
            DUE.is(x, x.at(view, 0), UNKNOWN);
        }
        DUE.is(x, x.at(0, 1), UNKNOWN);
        DUE.is(x, x.at(1, 1), 3);
        DUE.is(x, x.at(2, 1), 3);
        DUE.is(x, x.at(3, 1), UNKNOWN);
        DUE.is(x, x.at(4, 4), 255);
        DUE.is(x, x.at(5, 1), UNKNOWN);
    }

    private static void findQueries() {
        DUE.to("Promise 15: have all words of a query (0 to 255)");
        int[] words = {1, 2, 4, 8, 16, 32, 64, 128, 254, 127, 255, 15, 240, 85, 170, 3};
        Calls x = new Calls();
        for (int key = 0; key <= 15; key++) {
            x.write(key, words[key], 0);
        }
        x.refresh();
        for (int query : Bounds.within(0, 255)) {
            int fitting = 0;
            for (int each : words) {
                fitting += (each | query) == each ? 1 : 0;
            }
            DUE.is(x, x.find(1, query), fitting);
        }
    }

    private static void findNothingAndAll() {
        DUE.to("Promise 15: How many KEYS LIVE in a VIEW (none, all)");
        Calls x = Leads.withKeys(Leads.keys(0, 15));
        DUE.is(x, x.find(0, 0), 0);
        x.refresh();
        DUE.is(x, x.find(1, 0), 16);
        DUE.is(x, x.find(1, 1), 16);
        DUE.is(x, x.find(1, 3), 0);
        x.drop(1, 0);
        DUE.is(x, x.find(1, 0), 16);
        x.refresh();
        DUE.is(x, x.find(2, 0), 0);
        DUE.is(x, x.find(2, 1), 0);
    }

    private static void findOutside() {
        DUE.to("Promise 15: a query (0 to 255).. OUTSIDE");
        Calls x = new Calls();
        x.write(0, 255, 0);
        x.refresh();
        for (int query : Bounds.outside(0, 255)) {
            DUE.is(x, x.find(1, query), OUTSIDE);
            DUE.is(x, x.find(0, query), OUTSIDE);
        }
    }

    private static void findUnknown() {
        DUE.to("Promise 15: UNKNOWN");
        Calls x = Leads.withAllSorts();
        for (int view : Bounds.NO_VIEWS) {
            DUE.is(x, x.find(view, 0), UNKNOWN);
        }
        DUE.is(x, x.find(0, 0), UNKNOWN);
        DUE.is(x, x.find(1, 0), 3);
        DUE.is(x, x.find(2, 0), 3);
        DUE.is(x, x.find(3, 0), UNKNOWN);
        DUE.is(x, x.find(4, 0), 4);
        DUE.is(x, x.find(5, 0), UNKNOWN);
    }

    private static void matchPlaces() {
        DUE.to("Promise 16: The i-th of these.. NONE: none such");
        Calls x = Leads.withKeys(3, 7, 5);
        x.refresh();
        DUE.is(x, x.match(1, 0, 0, 0), 5);
        DUE.is(x, x.match(1, 0, 0, 1), 7);
        DUE.is(x, x.match(1, 0, 0, 2), 3);
        for (int i : Bounds.outside(0, 2)) {
            DUE.is(x, x.match(1, 0, 0, i), NONE);
        }
    }

    private static void matchOfNothing() {
        DUE.to("Promise 16: NONE: none such (of none)");
        Calls x = Leads.withKeys(0);
        x.refresh();
        DUE.is(x, x.match(0, 0, 0, 0), NONE);
        DUE.is(x, x.match(1, 2, 0, 0), NONE);
        DUE.is(x, x.match(1, 3, 0, 0), NONE);
        DUE.is(x, x.match(1, 1, 0, 0), 0);
        DUE.is(x, x.match(1, 1, 0, -1), NONE);
        x.remove(0, 1);
        x.refresh();
        DUE.is(x, x.match(2, 0, 0, 0), NONE);
    }

    private static void matchOfAll() {
        DUE.to("Promise 16: The i-th of these (of all there may be)");
        Calls x = Leads.withKeys(Leads.keys(0, 15));
        x.refresh();
        for (int i = 0; i <= 15; i++) {
            DUE.is(x, x.match(1, 0, 0, i), 15 - i);
            DUE.is(x, x.match(1, 1, 255, i), 15 - i);
        }
        DUE.is(x, x.match(1, 0, 0, 16), NONE);
        DUE.is(x, x.match(1, 0, 0, -1), NONE);
    }

    private static void matchByWords() {
        DUE.to("Promise 16: KEYS with more of the words of a wish (0 to 255) first");
        Calls x = new Calls();
        int[] words = {255, 127, 63, 31, 15, 7, 3, 1};
        for (int key = 0; key < 8; key++) {
            x.write(key, words[key], 0);
        }
        x.write(15, 128, 0);
        x.refresh();
        for (int i = 0; i <= 6; i++) {
            DUE.is(x, x.match(1, 0, 255, i), i);
        }
        DUE.is(x, x.match(1, 0, 255, 7), 15);
        DUE.is(x, x.match(1, 0, 255, 8), 7);
        DUE.is(x, x.match(1, 0, 128, 0), 15);
        DUE.is(x, x.match(1, 0, 128, 1), 0);
        DUE.is(x, x.match(1, 0, 128, 2), 7);
        DUE.is(x, x.match(1, 0, 192, 0), 0);
        DUE.is(x, x.match(1, 0, 192, 1), 15);
        DUE.is(x, x.match(1, 0, 192, 2), 1);
    }

    private static void matchOfAsManyTheLater() {
        DUE.to("Promise 16: of as many the later WRITTEN one");
        Calls x = new Calls();
        x.write(9, 1, 0);
        x.write(2, 2, 0);
        x.write(5, 4, 0);
        x.refresh();
        DUE.is(x, x.match(1, 0, 7, 0), 5);
        DUE.is(x, x.match(1, 0, 7, 1), 2);
        DUE.is(x, x.match(1, 0, 7, 2), 9);
        DUE.is(x, x.match(1, 0, 1, 0), 9);
        DUE.is(x, x.match(1, 0, 1, 1), 5);
        x.write(9, 1, 1);
        DUE.is(x, x.match(1, 0, 7, 0), 5);
        x.refresh();
        DUE.is(x, x.match(2, 0, 7, 0), 9);
    }

    private static void matchWishes() {
        DUE.to("Promise 16: a wish (0 to 255)");
        Calls x = new Calls();
        x.write(3, 255, 0);
        x.write(4, 1, 0);
        x.refresh();
        for (int wish : Bounds.within(0, 255)) {
            DUE.is(x, x.match(1, 0, wish, 0), wish > 1 ? 3 : 4);
        }
    }

    private static void matchOutside() {
        DUE.to("Promise 16: OUTSIDE: query, wish");
        Calls x = new Calls();
        x.write(0, 255, 0);
        x.refresh();
        for (int bits : Bounds.outside(0, 255)) {
            DUE.is(x, x.match(1, bits, 0, 0), OUTSIDE);
            DUE.is(x, x.match(1, 0, bits, 0), OUTSIDE);
            DUE.is(x, x.match(1, bits, bits, 0), OUTSIDE);
            DUE.is(x, x.match(1, bits, 0, -1), OUTSIDE);
            DUE.is(x, x.match(1, 0, bits, 99), OUTSIDE);
            DUE.is(x, x.match(0, 0, bits, 0), OUTSIDE);
        }
        DUE.is(x, x.match(1, 255, 255, 0), 0);
        DUE.is(x, x.match(1, 0, 0, 0), 0);
    }

    private static void matchUnknown() {
        DUE.to("Promise 16: UNKNOWN");
        Calls x = Leads.withAllSorts();
        for (int view : Bounds.NO_VIEWS) {
            DUE.is(x, x.match(view, 0, 0, 0), UNKNOWN);
        }
        DUE.is(x, x.match(0, 0, 0, 0), UNKNOWN);
        DUE.is(x, x.match(1, 0, 0, 0), 2);
        DUE.is(x, x.match(2, 0, 0, 0), 3);
        DUE.is(x, x.match(3, 0, 0, 0), UNKNOWN);
        DUE.is(x, x.match(4, 0, 0, 0), 1);
        DUE.is(x, x.match(5, 0, 0, 0), UNKNOWN);
    }
}
