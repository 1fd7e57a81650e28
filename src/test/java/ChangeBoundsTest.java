/** What the document says of bounds in promises 1 to 5, 12 and 13, sentence by sentence. */
public final class ChangeBoundsTest {
    private static final Due DUE = new Due("ChangeBoundsTest");
    private static final int NONE = LiveViews.NONE;
    private static final int UNKNOWN = LiveViews.UNKNOWN;
    private static final int OUTSIDE = LiveViews.OUTSIDE;
    private static final int CONFLICT = LiveViews.CONFLICT;

    public static void main(String[] args) {
        noChangesAtFirst();
        keysAre0To15();
        keysOutside();
        wordsAre1To255();
        wordsOutside();
        expectedIsTheNumberOfItsWriting();
        expectedIs0IfItDoesNotLive();
        expectedIsWhateverItIs();
        expectedBelowNone();
        removeWhatDoesNotLive();
        removeExpects();
        dropQueries();
        dropQueriesOutside();
        dropOfNothing();
        dropOfAll();
        dropByRisingKeys();
        dropMissesWhatWasChanged();
        dropOfUnknownViews();
        missedBeforeAnyDrop();
        missedOfTheLatestDrop();
        missedOfRefusedDrops();
        conflictWithoutOne();
        conflictOfTheLatestOne();
        conflictOfOtherRefusals();
        conflictOutside();
        getWhatDoesNotLive();
        numberWithoutAChange();
        DUE.end();
    }

    private static void noChangesAtFirst() {
        DUE.to("Promise 1: No CHANGES; VIEW 0");
        Calls x = new Calls();
        DUE.is(x, x.told(3), 0);
        DUE.is(x, x.told(0), 0);
        DUE.is(x, x.told(1), 0);
        DUE.is(x, x.told(7), 1);
        DUE.is(x, x.segments(0), 0);
        DUE.is(x, x.segments(1), UNKNOWN);
        DUE.is(x, x.segments(-1), UNKNOWN);
        DUE.is(x, x.sync(), 0);
        DUE.is(x, x.write(0, 1, 0), 1);
        DUE.is(x, x.refresh(), 1);
        DUE.is(x, x.segment(1, 0, 0), 0);
    }

    private static void keysAre0To15() {
        DUE.to("Terms: KEYS are 0 to 15");
        Calls x = new Calls();
        for (int key : Bounds.within(0, 15)) {
            DUE.is(x, x.write(key, key + 1, 0), key + 1);
        }
        int view = x.refresh();
        for (int key : Bounds.within(0, 15)) {
            DUE.is(x, x.get(key), key + 1);
            DUE.is(x, x.number(key), key + 1);
            DUE.is(x, x.at(view, key), key + 1);
        }
        for (int key : Bounds.within(0, 15)) {
            DUE.is(x, x.remove(key, key + 1), key + 17);
            DUE.is(x, x.get(key), 0);
        }
    }

    private static void keysOutside() {
        DUE.to("Terms: KEYS are 0 to 15; OUTSIDE (a number out of its bounds)");
        Calls x = Leads.withKeys(Leads.keys(0, 15));
        int view = x.refresh();
        for (int key : Bounds.outside(0, 15)) {
            DUE.is(x, x.write(key, 1, NONE), OUTSIDE);
            DUE.is(x, x.remove(key, NONE), OUTSIDE);
            DUE.is(x, x.get(key), OUTSIDE);
            DUE.is(x, x.number(key), OUTSIDE);
            DUE.is(x, x.at(view, key), OUTSIDE);
        }
        DUE.is(x, x.told(3), 16);
    }

    private static void wordsAre1To255() {
        DUE.to("Terms: WORDS (a set of 8 words as bits, 1 to 255)");
        Calls x = new Calls();
        for (int words : Bounds.within(1, 255)) {
            DUE.is(x, x.write(15, words, words - 1), words);
            DUE.is(x, x.get(15), words);
        }
    }

    private static void wordsOutside() {
        DUE.to("Promise 2: OUTSIDE; Terms: WORDS .. 1 to 255");
        Calls x = Leads.withKeys(0);
        for (int words : Bounds.outside(1, 255)) {
            DUE.is(x, x.write(0, words, NONE), OUTSIDE);
            DUE.is(x, x.write(1, words, 0), OUTSIDE);
        }
        DUE.is(x, x.get(0), 1);
        DUE.is(x, x.told(3), 1);
    }

    private static void expectedIsTheNumberOfItsWriting() {
        DUE.to("Promise 2: expected is the NUMBER of the CHANGE that has WRITTEN it; CONFLICT: it is another one");
        Calls x = Leads.withKeys(1, 2, 3);
        int[] others = {0, 1, 3, 4, 600, 601, 258, 65538, Integer.MAX_VALUE};
        for (int expected : others) {
            DUE.is(x, x.write(2, 9, expected), CONFLICT);
            DUE.is(x, x.remove(2, expected), CONFLICT);
        }
        DUE.is(x, x.get(2), 1);
        DUE.is(x, x.write(2, 9, 2), 4);
        DUE.is(x, x.write(2, 9, 2), CONFLICT);
        DUE.is(x, x.write(2, 9, 4), 5);
    }

    private static void expectedIs0IfItDoesNotLive() {
        DUE.to("Promise 2: 0 if it does not LIVE");
        Calls x = new Calls();
        DUE.is(x, x.write(0, 1, 1), CONFLICT);
        DUE.is(x, x.write(0, 1, 0), 1);
        DUE.is(x, x.write(0, 1, 0), CONFLICT);
        DUE.is(x, x.remove(0, 1), 2);
        DUE.is(x, x.write(0, 1, 1), CONFLICT);
        DUE.is(x, x.write(0, 1, 2), CONFLICT);
        DUE.is(x, x.write(0, 1, 3), CONFLICT);
        DUE.is(x, x.write(0, 1, 0), 3);
    }

    private static void expectedIsWhateverItIs() {
        DUE.to("Promise 2: or NONE: whatever it is");
        Calls x = new Calls();
        DUE.is(x, x.write(0, 1, NONE), 1);
        DUE.is(x, x.write(0, 1, NONE), 2);
        DUE.is(x, x.remove(0, NONE), 3);
        DUE.is(x, x.remove(0, NONE), 4);
        DUE.is(x, x.write(0, 1, NONE), 5);
        DUE.is(x, x.remove(1, NONE), 6);
    }

    private static void expectedBelowNone() {
        DUE.to("Promise 2: OUTSIDE: also an expected number below NONE; Promise 3: as write()");
        Calls x = Leads.withKeys(0);
        int[] below = {-2, -3, -4, -5, -256, -65535, Integer.MIN_VALUE, Integer.MIN_VALUE + 1};
        for (int expected : below) {
            DUE.is(x, x.write(0, 1, expected), OUTSIDE);
            DUE.is(x, x.remove(0, expected), OUTSIDE);
            DUE.is(x, x.write(1, 1, expected), OUTSIDE);
            DUE.is(x, x.remove(1, expected), OUTSIDE);
        }
        DUE.is(x, x.conflict(1), NONE);
        DUE.is(x, x.told(3), 1);
    }

    private static void removeWhatDoesNotLive() {
        DUE.to("Promise 3: the CHANGE's NUMBER (also when it does not LIVE)");
        Calls x = new Calls();
        DUE.is(x, x.remove(0, 0), 1);
        DUE.is(x, x.number(0), 1);
        DUE.is(x, x.remove(0, 0), 2);
        DUE.is(x, x.number(0), 2);
        DUE.is(x, x.told(3), 2);
        DUE.is(x, x.refresh(), 1);
    }

    private static void removeExpects() {
        DUE.to("Promise 3: OUTSIDE; CONFLICT; ROOM: as write()");
        Calls x = new Calls();
        DUE.is(x, x.remove(4, 1), CONFLICT);
        DUE.is(x, x.remove(4, 0), 1);
        DUE.is(x, x.remove(4, 1), CONFLICT);
        x.write(4, 1, 0);
        DUE.is(x, x.remove(4, 0), CONFLICT);
        DUE.is(x, x.remove(4, 1), CONFLICT);
        DUE.is(x, x.remove(4, 3), CONFLICT);
        DUE.is(x, x.remove(4, 2), 3);
    }

    private static void dropQueries() {
        DUE.to("Promise 4: with all words of a query (0 to 255)");
        int[] words = {1, 127, 128, 254, 255};
        for (int query : Bounds.within(0, 255)) {
            Calls x = new Calls();
            int fitting = 0;
            for (int key = 0; key < words.length; key++) {
                x.write(key, words[key], 0);
                fitting += (words[key] | query) == words[key] ? 1 : 0;
            }
            x.refresh();
            DUE.is(x, x.drop(1, query), fitting);
            for (int key = 0; key < words.length; key++) {
                boolean dropped = (words[key] | query) == words[key];
                DUE.is(x, x.get(key), dropped ? 0 : words[key]);
            }
        }
    }

    private static void dropQueriesOutside() {
        DUE.to("Promise 4: a query (0 to 255).. OUTSIDE");
        Calls x = new Calls();
        x.write(0, 255, 0);
        x.refresh();
        for (int query : Bounds.outside(0, 255)) {
            DUE.is(x, x.drop(1, query), OUTSIDE);
            DUE.is(x, x.drop(0, query), OUTSIDE);
        }
        DUE.is(x, x.get(0), 255);
    }

    private static void dropOfNothing() {
        DUE.to("Promise 4: How many were REMOVED (none)");
        Calls x = new Calls();
        DUE.is(x, x.drop(0, 0), 0);
        DUE.is(x, x.drop(0, 255), 0);
        x.write(0, 254, 0);
        DUE.is(x, x.drop(0, 0), 0);
        DUE.is(x, x.conflict(0), 0);
        x.refresh();
        DUE.is(x, x.drop(1, 255), 0);
        DUE.is(x, x.conflict(0), 0);
        DUE.is(x, x.told(3), 1);
        DUE.is(x, x.refresh(), 1);
    }

    private static void dropOfAll() {
        DUE.to("Promise 4: How many were REMOVED (all there may be)");
        Calls x = Leads.withKeys(Leads.keys(0, 15));
        x.refresh();
        DUE.is(x, x.drop(1, 0), 16);
        DUE.is(x, x.conflict(0), 0);
        DUE.is(x, x.told(3), 32);
        DUE.is(x, x.drop(1, 0), 0);
        DUE.is(x, x.conflict(0), 16);
        DUE.is(x, x.told(3), 32);
    }

    private static void dropByRisingKeys() {
        DUE.to("Promise 4: By rising KEYS");
        Calls x = Leads.withKeys(15, 8, 1, 0);
        x.refresh();
        x.drop(1, 0);
        DUE.is(x, x.number(0), 5);
        DUE.is(x, x.number(1), 6);
        DUE.is(x, x.number(8), 7);
        DUE.is(x, x.number(15), 8);
    }

    private static void dropMissesWhatWasChanged() {
        DUE.to("Promise 4: if its latest CHANGE is still that one, it is REMOVED; else it is missed");
        Calls x = Leads.withKeys(0, 1, 2, 3);
        x.remove(4, 0);
        x.refresh();
        x.write(0, 1, 1);
        x.remove(1, 2);
        x.remove(2, 3);
        x.write(2, 1, 0);
        x.write(4, 1, 0);
        DUE.is(x, x.drop(1, 0), 1);
        DUE.is(x, x.conflict(0), 3);
        DUE.is(x, x.number(0), 6);
        DUE.is(x, x.number(1), 7);
        DUE.is(x, x.number(2), 9);
        DUE.is(x, x.number(3), 11);
        DUE.is(x, x.number(4), 10);
        DUE.is(x, x.get(3), 0);
    }

    private static void dropOfUnknownViews() {
        DUE.to("Promise 4: UNKNOWN");
        Calls x = Leads.withAllSorts();
        for (int view : Bounds.NO_VIEWS) {
            DUE.is(x, x.drop(view, 0), UNKNOWN);
        }
        DUE.is(x, x.drop(0, 0), UNKNOWN);
        DUE.is(x, x.drop(3, 0), UNKNOWN);
        DUE.is(x, x.drop(5, 0), UNKNOWN);
        DUE.is(x, x.told(3), 10);
    }

    private static void missedBeforeAnyDrop() {
        DUE.to("Promise 5: how many were missed (what = 0; 0 without one)");
        Calls x = new Calls();
        DUE.is(x, x.conflict(0), 0);
        x.drop(1, 0);
        DUE.is(x, x.conflict(0), 0);
        x.drop(0, 256);
        DUE.is(x, x.conflict(0), 0);
        x.write(0, 1, 9);
        DUE.is(x, x.conflict(0), 0);
    }

    private static void missedOfTheLatestDrop() {
        DUE.to("Promise 5: Of the latest drop()");
        Calls x = Leads.withKeys(0, 1, 2);
        x.refresh();
        x.write(1, 2, 2);
        DUE.is(x, x.drop(1, 0), 2);
        DUE.is(x, x.conflict(0), 1);
        DUE.is(x, x.drop(1, 0), 0);
        DUE.is(x, x.conflict(0), 3);
        DUE.is(x, x.drop(1, 2), 0);
        DUE.is(x, x.conflict(0), 0);
    }

    private static void missedOfRefusedDrops() {
        DUE.to("Promise 5: drop() that was not refused");
        Calls x = Leads.withAllSorts();
        DUE.is(x, x.conflict(0), 1);
        DUE.is(x, x.drop(5, 0), UNKNOWN);
        DUE.is(x, x.conflict(0), 1);
        DUE.is(x, x.drop(1, 256), OUTSIDE);
        DUE.is(x, x.conflict(0), 1);
        DUE.is(x, x.drop(1, -1), OUTSIDE);
        DUE.is(x, x.conflict(0), 1);
    }

    private static void conflictWithoutOne() {
        DUE.to("Promise 5: NONE without one");
        Calls x = new Calls();
        DUE.is(x, x.conflict(1), NONE);
        DUE.is(x, x.conflict(2), NONE);
        x.write(0, 1, 0);
        x.write(0, 1, NONE);
        x.write(16, 1, 5);
        x.refresh();
        x.remove(0, 2);
        x.drop(1, 0);
        DUE.is(x, x.conflict(0), 1);
        DUE.is(x, x.conflict(1), NONE);
        DUE.is(x, x.conflict(2), NONE);
    }

    private static void conflictOfTheLatestOne() {
        DUE.to("Promise 5: Of the latest CONFLICT: the number that was expected (1), the one that it was (2)");
        Calls x = Leads.withKeys(0, 1);
        int[] others = {0, 1, 3, 601, Integer.MAX_VALUE};
        for (int expected : others) {
            x.write(1, 1, expected);
            DUE.is(x, x.conflict(1), expected);
            DUE.is(x, x.conflict(2), 2);
        }
        x.remove(5, 600);
        DUE.is(x, x.conflict(1), 600);
        DUE.is(x, x.conflict(2), 0);
        x.remove(1, 2);
        x.remove(1, 3);
        DUE.is(x, x.conflict(1), 3);
        DUE.is(x, x.conflict(2), 0);
    }

    private static void conflictOfOtherRefusals() {
        DUE.to("Promise 5: Of the latest CONFLICT (other refusals are none)");
        Calls x = Leads.withAllSorts();
        x.write(5, 256, 9);
        x.remove(16, 9);
        x.remove(5, -2);
        x.drop(5, 0);
        x.close(4);
        DUE.is(x, x.conflict(1), 77);
        DUE.is(x, x.conflict(2), 8);
    }

    private static void conflictOutside() {
        DUE.to("Promise 5: OUTSIDE");
        Calls x = Leads.withAllSorts();
        for (int what : Bounds.outside(0, 2)) {
            DUE.is(x, x.conflict(what), OUTSIDE);
        }
    }

    private static void getWhatDoesNotLive() {
        DUE.to("Promise 12: 0: it does not LIVE");
        Calls x = new Calls();
        DUE.is(x, x.get(15), 0);
        x.write(15, 255, 0);
        DUE.is(x, x.get(15), 255);
        DUE.is(x, x.get(14), 0);
        x.remove(15, 1);
        DUE.is(x, x.get(15), 0);
    }

    private static void numberWithoutAChange() {
        DUE.to("Promise 13: 0: none");
        Calls x = new Calls();
        DUE.is(x, x.number(0), 0);
        x.write(0, 1, 0);
        DUE.is(x, x.number(0), 1);
        DUE.is(x, x.number(1), 0);
        x.remove(0, 1);
        DUE.is(x, x.number(0), 2);
        x.crash();
        DUE.is(x, x.number(0), 0);
    }
}
