/** What the document says of bounds in promises 7 to 9, sentence by sentence. */
public final class CrashBoundsTest {
    private static final Due DUE = new Due("CrashBoundsTest");
    private static final int UNKNOWN = LiveViews.UNKNOWN;
    private static final int OUTSIDE = LiveViews.OUTSIDE;

    public static void main(String[] args) {
        commitOfNothing();
        commitOfNothingNew();
        commitOfOneChange();
        syncOfNothing();
        syncOfSome();
        syncBehindACrash();
        crashOfNothing();
        crashWithNothingSafe();
        crashWithAllSafe();
        crashWithTheLastNotSafe();
        nextNumberIsBehindSafe();
        nothingIsOpenedAnyMore();
        commitIsTheLatest();
        thenItIsRefreshed();
        refreshedWithoutAKeyThatLives();
        crashBehindACrash();
        keysAreWhatTheyWere();
        conflictsAreLeft();
        DUE.end();
    }

    private static void toldIs(Calls x, int latest, int commit, int safe, int change) {
        DUE.is(x, x.told(0), latest);
        DUE.is(x, x.told(1), commit);
        DUE.is(x, x.told(2), safe);
        DUE.is(x, x.told(3), change);
    }

    private static void commitOfNothing() {
        DUE.to("Promise 7: It is REFRESHED.. that VIEW (nothing at all)");
        Calls x = new Calls();
        DUE.is(x, x.commit(), 0);
        toldIs(x, 0, 0, 0, 0);
        DUE.is(x, x.told(7), 1);
    }

    private static void commitOfNothingNew() {
        DUE.to("Promise 7: the LATEST VIEW is that of the COMMIT (nothing new)");
        Calls x = Leads.withKeys(0);
        x.refresh();
        toldIs(x, 1, 0, 0, 1);
        DUE.is(x, x.commit(), 1);
        toldIs(x, 1, 1, 1, 1);
        DUE.is(x, x.segments(0), UNKNOWN);
        DUE.is(x, x.commit(), 1);
        toldIs(x, 1, 1, 1, 1);
        DUE.is(x, x.told(6), 1);
    }

    private static void commitOfOneChange() {
        DUE.to("Promise 7: It is REFRESHED; .. SAFE is the latest CHANGE");
        Calls x = Leads.withKeys(0);
        DUE.is(x, x.commit(), 1);
        toldIs(x, 1, 1, 1, 1);
        x.remove(0, 1);
        toldIs(x, 1, 1, 1, 2);
        DUE.is(x, x.commit(), 2);
        toldIs(x, 2, 2, 2, 2);
        DUE.is(x, x.sync(), 0);
    }

    private static void syncOfNothing() {
        DUE.to("Promise 8: how many CHANGES were not SAFE (none)");
        Calls x = new Calls();
        DUE.is(x, x.sync(), 0);
        x.write(0, 1, 0);
        x.commit();
        DUE.is(x, x.sync(), 0);
        x.write(0, 1, 5);
        x.write(0, 0, 1);
        DUE.is(x, x.sync(), 0);
        toldIs(x, 1, 1, 1, 1);
    }

    private static void syncOfSome() {
        DUE.to("Promise 8: how many CHANGES were not SAFE");
        Calls x = Leads.withKeys(Leads.keys(0, 15));
        DUE.is(x, x.sync(), 16);
        DUE.is(x, x.sync(), 0);
        x.refresh();
        x.drop(1, 0);
        DUE.is(x, x.sync(), 16);
        toldIs(x, 1, 0, 32, 32);
        x.remove(0, 0);
        DUE.is(x, x.sync(), 1);
    }

    private static void syncBehindACrash() {
        DUE.to("Promise 8: how many CHANGES were not SAFE (behind a CRASH: none)");
        Calls x = Leads.withKeys(0);
        x.sync();
        Leads.writeAll(x, 1, 2);
        x.crash();
        DUE.is(x, x.sync(), 0);
        DUE.is(x, x.told(2), 1);
        Leads.writeAll(x, 3);
        DUE.is(x, x.sync(), 1);
    }

    private static void crashOfNothing() {
        DUE.to("Promise 9: how many CHANGES are no more (nothing at all)");
        Calls x = new Calls();
        DUE.is(x, x.crash(), 0);
        toldIs(x, 0, 0, 0, 0);
        DUE.is(x, x.told(7), 1);
        DUE.is(x, x.write(0, 1, 0), 1);
        DUE.is(x, x.refresh(), 1);
    }

    private static void crashWithNothingSafe() {
        DUE.to("Terms: CHANGES behind SAFE are no more (all of them)");
        Calls x = Leads.withKeys(Leads.keys(0, 15));
        x.refresh();
        DUE.is(x, x.crash(), 16);
        toldIs(x, 0, 0, 0, 0);
        for (int key = 0; key <= 15; key++) {
            DUE.is(x, x.get(key), 0);
            DUE.is(x, x.number(key), 0);
        }
        DUE.is(x, x.told(5), 0);
        DUE.is(x, x.told(6), 1);
        DUE.is(x, x.told(4), 16);
    }

    private static void crashWithAllSafe() {
        DUE.to("Terms: CHANGES behind SAFE are no more (none of them)");
        Calls x = Leads.withKeys(0, 1);
        x.commit();
        DUE.is(x, x.crash(), 0);
        toldIs(x, 1, 1, 2, 2);
        x.write(0, 9, 1);
        x.sync();
        DUE.is(x, x.crash(), 0);
        toldIs(x, 2, 1, 3, 3);
        DUE.is(x, x.get(0), 9);
        DUE.is(x, x.number(0), 3);
    }

    private static void crashWithTheLastNotSafe() {
        DUE.to("Terms: CHANGES behind SAFE are no more (the last one)");
        Calls x = Leads.withKeys(0);
        x.write(0, 2, 1);
        x.sync();
        x.write(0, 3, 2);
        DUE.is(x, x.crash(), 1);
        DUE.is(x, x.get(0), 2);
        DUE.is(x, x.number(0), 2);
        DUE.is(x, x.write(0, 4, 3), LiveViews.CONFLICT);
        DUE.is(x, x.write(0, 4, 2), 3);
    }

    private static void nextNumberIsBehindSafe() {
        DUE.to("Terms: (the next one has the NUMBER behind SAFE)");
        Calls x = Leads.withKeys(0, 1, 2);
        x.crash();
        DUE.is(x, x.remove(9, 0), 1);
        x.sync();
        Leads.writeAll(x, 3, 4);
        x.crash();
        DUE.is(x, x.write(5, 1, 0), 2);
        x.commit();
        x.crash();
        DUE.is(x, x.write(6, 1, 0), 3);
    }

    private static void nothingIsOpenedAnyMore() {
        DUE.to("Terms: nothing is opened any more");
        Calls x = Leads.withAllSorts();
        x.open(4);
        DUE.is(x, x.crash(), 3);
        DUE.is(x, x.close(1), OUTSIDE);
        DUE.is(x, x.close(2), UNKNOWN);
        DUE.is(x, x.close(4), UNKNOWN);
        DUE.is(x, x.close(5), OUTSIDE);
        DUE.is(x, x.told(7), 2);
        DUE.is(x, x.open(1), 1);
        DUE.is(x, x.open(5), 1);
        Calls y = new Calls();
        y.open(0);
        y.open(0);
        DUE.is(y, y.crash(), 0);
        DUE.is(y, y.close(0), OUTSIDE);
        DUE.is(y, y.open(0), 1);
    }

    private static void commitIsTheLatest() {
        DUE.to("Terms: the VIEW of the COMMIT is the LATEST one");
        Calls x = Leads.withKeys(0);
        x.commit();
        x.write(1, 1, 0);
        x.refresh();
        DUE.is(x, x.crash(), 1);
        toldIs(x, 1, 1, 1, 1);
        DUE.is(x, x.at(2, 0), UNKNOWN);
        DUE.is(x, x.told(7), 1);
        DUE.is(x, x.told(5), 1);
        DUE.is(x, x.refresh(), 1);
        x.write(2, 1, 0);
        DUE.is(x, x.refresh(), 3);
        DUE.is(x, x.segments(3), 2);
        DUE.is(x, x.segment(3, 0, 0), 0);
        DUE.is(x, x.segment(3, 1, 0), 2);
        DUE.is(x, x.segment(3, 1, 10), 2);
        DUE.is(x, x.segment(3, 1, 11), OUTSIDE);
    }

    private static void thenItIsRefreshed() {
        DUE.to("Terms: then it is REFRESHED");
        Calls x = Leads.withKeys(0, 1);
        x.commit();
        Leads.writeAll(x, 1);
        x.refresh();
        Leads.writeAll(x, 2);
        x.refresh();
        x.sync();
        Leads.writeAll(x, 3);
        DUE.is(x, x.crash(), 1);
        toldIs(x, 4, 1, 4, 4);
        DUE.is(x, x.segments(4), 2);
        DUE.is(x, x.segment(4, 0, 0), 0);
        DUE.is(x, x.segment(4, 0, 2), 1);
        DUE.is(x, x.segment(4, 1, 0), 3);
        DUE.is(x, x.segment(4, 1, 1), 2);
        DUE.is(x, x.segment(4, 1, 10), 1);
        DUE.is(x, x.segment(4, 1, 11), 2);
        DUE.is(x, x.told(4), 6);
        DUE.is(x, x.told(5), 2);
        DUE.is(x, x.told(6), 4);
        DUE.is(x, x.find(4, 0), 3);
        DUE.is(x, x.find(1, 0), 2);
    }

    private static void refreshedWithoutAKeyThatLives() {
        DUE.to("Terms: then it is REFRESHED (a VIEW without SEGMENTS)");
        Calls x = Leads.withKeys(0);
        x.commit();
        x.remove(0, 1);
        x.sync();
        DUE.is(x, x.crash(), 0);
        toldIs(x, 2, 1, 2, 2);
        DUE.is(x, x.segments(2), 0);
        DUE.is(x, x.segments(1), 1);
        DUE.is(x, x.told(6), 1);
    }

    private static void crashBehindACrash() {
        DUE.to("Promise 9: how many CHANGES are no more (none behind a CRASH)");
        Calls x = Leads.withKeys(0, 1);
        x.sync();
        Leads.writeAll(x, 2);
        DUE.is(x, x.crash(), 1);
        toldIs(x, 1, 0, 2, 2);
        DUE.is(x, x.crash(), 0);
        toldIs(x, 2, 0, 2, 2);
        DUE.is(x, x.at(1, 0), UNKNOWN);
        DUE.is(x, x.commit(), 2);
        DUE.is(x, x.crash(), 0);
        toldIs(x, 2, 2, 2, 2);
    }

    private static void keysAreWhatTheyWere() {
        DUE.to("Terms: What a KEY is: its latest CHANGE (of those that are left)");
        Calls x = Leads.withKeys(0, 1);
        x.remove(2, 0);
        x.sync();
        x.remove(0, 1);
        x.write(1, 9, 2);
        x.write(2, 9, 0);
        x.write(3, 9, 0);
        DUE.is(x, x.crash(), 4);
        int[] words = {1, 1, 0, 0};
        for (int key = 0; key <= 3; key++) {
            DUE.is(x, x.get(key), words[key]);
            DUE.is(x, x.at(1, key), words[key]);
            DUE.is(x, x.number(key), key < 3 ? key + 1 : 0);
        }
        DUE.is(x, x.write(2, 1, 0), 4);
    }

    private static void conflictsAreLeft() {
        DUE.to("Promise 5: Of the latest drop() .. Of the latest CONFLICT (also behind a CRASH)");
        Calls x = Leads.withAllSorts();
        x.crash();
        DUE.is(x, x.conflict(0), 1);
        DUE.is(x, x.conflict(1), 77);
        DUE.is(x, x.conflict(2), 8);
    }
}
