/** "600 at most" and "150 at most": the last within, the first outside, and all at once. */
public final class RoomTest {
    private static final Due DUE = new Due("RoomTest");
    private static final int UNKNOWN = LiveViews.UNKNOWN;
    private static final int ROOM = LiveViews.ROOM;

    public static void main(String[] args) {
        changesByWrite();
        changesByRemove();
        changesByDrop();
        dropOneTooMany();
        dropMissedNeedNoRoom();
        dropRefusedTellsNothing();
        changesMakeNoRoomForThemselves();
        changesAreNumbersBehindACrash();
        syncOfAllChanges();
        matchOfTheFirstAndTheLastChange();
        views();
        viewsThatAreNotHeldCount();
        viewsMadeByCommits();
        viewsMadeByCrashes();
        allViewsHeld();
        refreshWithoutRoom();
        commitWithoutRoom();
        commitThatNeedsNoView();
        crashWithoutRoom();
        crashThatNeedsNoView();
        allChangesAndViews();
        DUE.end();
    }

    private static void changesByWrite() {
        DUE.to("Terms: 600 at most; Promise 2: ROOM");
        Calls x = Leads.withChanges(598);
        DUE.is(x, x.write(3, 5, 0), 599);
        DUE.is(x, x.write(3, 6, 599), 600);
        DUE.is(x, x.write(3, 7, 600), ROOM);
        DUE.is(x, x.write(3, 7, -1), ROOM);
        DUE.is(x, x.write(5, 1, 0), ROOM);
        DUE.is(x, x.get(3), 6);
        DUE.is(x, x.number(3), 600);
        DUE.is(x, x.told(3), 600);
    }

    private static void changesByRemove() {
        DUE.to("Terms: 600 at most; Promise 3: ROOM: as write()");
        Calls x = Leads.withChanges(597);
        DUE.is(x, x.write(3, 5, 0), 598);
        DUE.is(x, x.remove(4, 0), 599);
        DUE.is(x, x.remove(4, 0), 600);
        DUE.is(x, x.remove(4, 0), ROOM);
        DUE.is(x, x.remove(3, 598), ROOM);
        DUE.is(x, x.remove(3, -1), ROOM);
        DUE.is(x, x.get(3), 5);
        DUE.is(x, x.number(4), 600);
        DUE.is(x, x.told(3), 600);
    }

    private static void changesByDrop() {
        DUE.to("Promise 4: ROOM: there would be too many CHANGES (600 are not)");
        Calls x = Leads.withChanges(568);
        Leads.writeAll(x, Leads.keys(0, 15));
        int view = x.refresh();
        DUE.is(x, x.drop(view, 0), 16);
        DUE.is(x, x.told(3), 600);
        Calls y = Leads.withChanges(569);
        Leads.writeAll(y, Leads.keys(0, 14));
        view = y.refresh();
        DUE.is(y, y.drop(view, 0), 15);
        DUE.is(y, y.told(3), 599);
        DUE.is(y, y.drop(view, 0), 0);
        DUE.is(y, y.write(0, 1, 0), 600);
    }

    private static void dropOneTooMany() {
        DUE.to("Promise 4: ROOM: there would be too many CHANGES (none is made)");
        Calls x = Leads.withChanges(569);
        Leads.writeAll(x, Leads.keys(0, 15));
        int view = x.refresh();
        DUE.is(x, x.drop(view, 0), ROOM);
        DUE.is(x, x.told(3), 585);
        DUE.is(x, x.conflict(0), 0);
        for (int key = 0; key <= 15; key++) {
            DUE.is(x, x.get(key), 1);
        }
        DUE.is(x, x.refresh(), view);
        Calls y = Leads.withChanges(599);
        y.write(3, 1, 0);
        view = y.refresh();
        DUE.is(y, y.drop(view, 1), ROOM);
        DUE.is(y, y.drop(view, 2), 0);
        DUE.is(y, y.get(3), 1);
    }

    private static void dropMissedNeedNoRoom() {
        DUE.to("Promise 4: too many CHANGES (what is missed is none)");
        Calls x = Leads.withChanges(568);
        Leads.writeAll(x, Leads.keys(0, 15));
        int view = x.refresh();
        x.write(7, 1, -1);
        DUE.is(x, x.drop(view, 0), 15);
        DUE.is(x, x.conflict(0), 1);
        DUE.is(x, x.told(3), 600);
        DUE.is(x, x.get(7), 1);
        DUE.is(x, x.drop(view, 0), 0);
        DUE.is(x, x.conflict(0), 16);
    }

    private static void dropRefusedTellsNothing() {
        DUE.to("Promise 5: Of the latest drop() that was not refused (ROOM)");
        Calls x = Leads.withChanges(596);
        x.write(0, 1, 0);
        x.write(1, 3, 0);
        int view = x.refresh();
        x.write(1, 3, -1);
        DUE.is(x, x.drop(view, 2), 0);
        DUE.is(x, x.conflict(0), 1);
        x.write(2, 1, 0);
        DUE.is(x, x.drop(view, 0), ROOM);
        DUE.is(x, x.conflict(0), 1);
        DUE.is(x, x.drop(view, 128), 0);
        DUE.is(x, x.conflict(0), 0);
        DUE.is(x, x.drop(view, 0), ROOM);
        DUE.is(x, x.conflict(0), 0);
    }

    private static void changesMakeNoRoomForThemselves() {
        DUE.to("Terms: a 601st CHANGE (also behind a VIEW or a COMMIT of the 600)");
        Calls x = Leads.withChanges(600);
        x.refresh();
        DUE.is(x, x.write(0, 1, 0), ROOM);
        x.commit();
        DUE.is(x, x.write(0, 1, 0), ROOM);
        DUE.is(x, x.crash(), 0);
        DUE.is(x, x.write(0, 1, 0), ROOM);
        DUE.is(x, x.told(3), 600);
    }

    private static void changesAreNumbersBehindACrash() {
        DUE.to("Terms: (the next one has the NUMBER behind SAFE), at the 600th");
        Calls x = Leads.withChanges(599);
        x.sync();
        DUE.is(x, x.write(0, 1, 0), 600);
        DUE.is(x, x.write(1, 1, 0), ROOM);
        DUE.is(x, x.crash(), 1);
        DUE.is(x, x.write(1, 1, 0), 600);
        DUE.is(x, x.get(0), 0);
        DUE.is(x, x.write(0, 1, 0), ROOM);
        Calls y = Leads.withChanges(600);
        DUE.is(y, y.write(0, 1, 0), ROOM);
        DUE.is(y, y.crash(), 600);
        DUE.is(y, y.write(0, 1, 0), 1);
    }

    private static void syncOfAllChanges() {
        DUE.to("Promise 8: how many CHANGES were not SAFE (all there may be)");
        Calls x = Leads.withChanges(600);
        DUE.is(x, x.sync(), 600);
        DUE.is(x, x.told(2), 600);
        DUE.is(x, x.sync(), 0);
        DUE.is(x, x.crash(), 0);
        DUE.is(x, x.told(3), 600);
    }

    private static void matchOfTheFirstAndTheLastChange() {
        DUE.to("Promise 16: KEYS with more of the words of a wish first (by CHANGE 1, by CHANGE 600)");
        Calls x = Leads.withKeys(0);
        for (int round = 0; round < 19; round++) {
            for (int key = 1; key <= 15; key++) {
                x.write(key, 2, 0);
            }
            x.drop(x.refresh(), 2);
        }
        while (x.remove(15, 0) < 599) {
            continue;
        }
        DUE.is(x, x.write(15, 2, 0), 600);
        int view = x.refresh();
        DUE.is(x, x.match(view, 0, 1, 0), 0);
        DUE.is(x, x.match(view, 0, 1, 1), 15);
        DUE.is(x, x.match(view, 0, 1, 2), LiveViews.NONE);
        DUE.is(x, x.match(view, 0, 3, 0), 15);
        DUE.is(x, x.match(view, 0, 3, 1), 0);
    }

    private static void views() {
        DUE.to("Terms: VIEWS .. 150 at most; Promise 6: ROOM");
        Calls x = Leads.withViews(149);
        DUE.is(x, x.told(0), 148);
        x.write(1, 1, 0);
        DUE.is(x, x.refresh(), 149);
        DUE.is(x, x.at(149, 1), 1);
        DUE.is(x, x.refresh(), 149);
        x.write(2, 1, 0);
        DUE.is(x, x.refresh(), ROOM);
        DUE.is(x, x.refresh(), ROOM);
        DUE.is(x, x.told(0), 149);
        DUE.is(x, x.at(149, 1), 1);
        DUE.is(x, x.at(149, 2), 0);
        DUE.is(x, x.at(150, 1), UNKNOWN);
        DUE.is(x, x.open(150), UNKNOWN);
        DUE.is(x, x.open(149), 1);
        DUE.is(x, x.close(149), 0);
        DUE.is(x, x.write(3, 1, 0), 151);
    }

    private static void viewsThatAreNotHeldCount() {
        DUE.to("Terms: 150 at most.. their numbers are never given again");
        Calls x = Leads.withViews(150);
        DUE.is(x, x.told(7), 2);
        x.write(1, 1, 0);
        DUE.is(x, x.refresh(), ROOM);
        DUE.is(x, x.crash(), 150);
        DUE.is(x, x.told(0), 0);
        DUE.is(x, x.refresh(), 0);
        x.write(1, 1, 0);
        DUE.is(x, x.refresh(), ROOM);
        DUE.is(x, x.segments(149), UNKNOWN);
    }

    private static void viewsMadeByCommits() {
        DUE.to("Promise 7: ROOM (the 150th and the 151st VIEW)");
        Calls x = Leads.withViews(149);
        x.write(1, 1, 0);
        DUE.is(x, x.commit(), 149);
        DUE.is(x, x.told(2), 149);
        x.write(1, 1, -1);
        DUE.is(x, x.commit(), ROOM);
        DUE.is(x, x.told(1), 149);
        DUE.is(x, x.told(2), 149);
    }

    private static void viewsMadeByCrashes() {
        DUE.to("Promise 9: ROOM (the 150th and the 151st VIEW)");
        Calls x = Leads.withKeys(0);
        x.sync();
        for (int view = 1; view <= 149; view++) {
            DUE.is(x, x.crash(), 0);
            DUE.is(x, x.told(0), view);
        }
        DUE.is(x, x.crash(), ROOM);
        DUE.is(x, x.told(0), 149);
        DUE.is(x, x.told(6), 149);
        DUE.is(x, x.commit(), 149);
        DUE.is(x, x.crash(), 0);
        DUE.is(x, x.told(0), 149);
    }

    private static void allViewsHeld() {
        DUE.to("Promise 19: how many SEGMENTS are THERE (5), were made (6), how many VIEWS are HELD (7) (all there may be)");
        Calls x = new Calls();
        x.open(0);
        for (int view = 1; view <= 149; view++) {
            x.write(0, 1 + view, -1);
            x.open(x.refresh());
        }
        DUE.is(x, x.told(7), 150);
        DUE.is(x, x.told(5), 149);
        DUE.is(x, x.told(6), 149);
        DUE.is(x, x.told(4), 149);
        DUE.is(x, x.at(1, 0), 2);
        DUE.is(x, x.at(75, 0), 76);
        DUE.is(x, x.at(149, 0), 150);
        DUE.is(x, x.close(1), 0);
        DUE.is(x, x.close(0), 0);
        DUE.is(x, x.told(7), 149);
        DUE.is(x, x.told(5), 148);
        x.commit();
        DUE.is(x, x.told(7), 148);
        DUE.is(x, x.crash(), 0);
        DUE.is(x, x.told(7), 1);
        DUE.is(x, x.told(5), 1);
    }

    private static void refreshWithoutRoom() {
        DUE.to("Promise 6: ROOM (nothing changes)");
        Calls x = Leads.withViews(150);
        x.write(1, 1, 0);
        DUE.is(x, x.refresh(), ROOM);
        DUE.is(x, x.told(0), 149);
        DUE.is(x, x.told(4), 149);
        DUE.is(x, x.told(6), 149);
        DUE.is(x, x.told(7), 2);
        DUE.is(x, x.find(149, 0), 1);
    }

    private static void commitWithoutRoom() {
        DUE.to("Promise 7: ROOM (nothing changes)");
        Calls x = Leads.withViews(150);
        x.write(1, 1, 0);
        DUE.is(x, x.commit(), ROOM);
        DUE.is(x, x.told(1), 0);
        DUE.is(x, x.told(2), 0);
        DUE.is(x, x.told(7), 2);
        DUE.is(x, x.sync(), 150);
    }

    private static void commitThatNeedsNoView() {
        DUE.to("Promise 7: It is REFRESHED (no VIEW is to be made)");
        Calls x = Leads.withViews(150);
        DUE.is(x, x.commit(), 149);
        DUE.is(x, x.told(1), 149);
        DUE.is(x, x.told(2), 149);
        DUE.is(x, x.told(7), 1);
        DUE.is(x, x.commit(), 149);
    }

    private static void crashWithoutRoom() {
        DUE.to("Promise 9: ROOM: there is no room for a VIEW that is to be made");
        Calls x = Leads.withViews(150);
        x.open(149);
        x.sync();
        x.write(1, 1, 0);
        DUE.is(x, x.crash(), ROOM);
        DUE.is(x, x.get(1), 1);
        DUE.is(x, x.told(3), 150);
        DUE.is(x, x.told(0), 149);
        DUE.is(x, x.close(149), 0);
        Calls y = Leads.withViews(150);
        y.sync();
        DUE.is(y, y.crash(), ROOM);
    }

    private static void crashThatNeedsNoView() {
        DUE.to("Promise 9: a VIEW that is to be made (none is)");
        Calls x = Leads.withViews(150);
        x.write(1, 1, 0);
        DUE.is(x, x.crash(), 150);
        DUE.is(x, x.told(0), 0);
        DUE.is(x, x.crash(), 0);
        Calls y = Leads.withViews(150);
        y.commit();
        y.write(1, 1, 0);
        DUE.is(y, y.crash(), 1);
        DUE.is(y, y.told(0), 149);
        y.write(1, 1, 0);
        y.sync();
        DUE.is(y, y.crash(), ROOM);
    }

    private static void allChangesAndViews() {
        DUE.to("Terms: ROOM (a 601st CHANGE, a 151st VIEW) (both are full)");
        Calls x = Leads.full();
        DUE.is(x, x.told(0), 149);
        DUE.is(x, x.told(3), 600);
        DUE.is(x, x.refresh(), 149);
        DUE.is(x, x.find(149, 0), 16);
        DUE.is(x, x.write(0, 1, -1), ROOM);
        DUE.is(x, x.remove(0, -1), ROOM);
        DUE.is(x, x.drop(149, 0), ROOM);
        DUE.is(x, x.sync(), 600);
        DUE.is(x, x.crash(), ROOM);
        DUE.is(x, x.commit(), 149);
        DUE.is(x, x.crash(), 0);
        DUE.is(x, x.told(7), 1);
        DUE.is(x, x.at(149, 15), 1);
    }
}
