import java.util.stream.IntStream;

/** Calls that lead new objects to the states that the tests begin with. */
final class Leads {
    private static final int KEYS = 16;

    private Leads() { }

    static Calls withKeys(int... keys) {
        Calls x = new Calls();
        writeAll(x, keys);
        return x;
    }

    static void writeAll(Calls x, int... keys) {
        for (int key : keys) {
            x.write(key, 1, -1);
        }
    }

    static void removeAll(Calls x, int... keys) {
        for (int key : keys) {
            x.remove(key, -1);
        }
    }

    static int[] keys(int first, int last) {
        return IntStream.rangeClosed(first, last).toArray();
    }

    /** No key lives behind them. Drops make many changes with few calls. */
    static Calls withChanges(int count) {
        Calls x = new Calls();
        int made = 0;
        for (; made + 2 * KEYS <= count; made += 2 * KEYS) {
            writeAll(x, keys(0, KEYS - 1));
            x.drop(x.refresh(), 0);
        }
        for (; made < count; made++) {
            x.remove(0, -1);
        }
        return x;
    }

    /** As many were made, view 0 with them: one change for each of the others, key 0 written. */
    static Calls withViews(int count) {
        Calls x = new Calls();
        for (int view = 1; view < count; view++) {
            x.write(0, 1, -1);
            x.refresh();
        }
        return x;
    }

    /** 600 changes and 150 views at once, nothing behind the latest view: 479 calls. */
    static Calls full() {
        Calls x = new Calls();
        int changes = 0;
        int view = 0;
        int spare = 130;
        while (changes < 600) {
            int key = changes % KEYS;
            x.write(key, 1, -1);
            changes++;
            boolean dropAll = key == KEYS - 1 && changes + KEYS <= 600;
            if (dropAll || changes == 600 || spare-- > 0) {
                view = x.refresh();
            }
            if (dropAll) {
                x.drop(view, 0);
                changes += KEYS;
            }
        }
        return x;
    }

    /**
     * Some of everything: view 1 is that of the commit and opened, 2 is opened, 4 is the latest
     * one, 0 and 3 were let go, 5 is the next; changes 1 to 7 are safe, 8 to 10 are not, and are
     * behind view 4; a drop has missed one, and there was a conflict.
     */
    static Calls withAllSorts() {
        Calls x = new Calls();
        x.write(0, 1, 0);
        x.write(1, 3, 0);
        x.write(2, 7, 0);
        x.commit();
        x.open(1);
        x.write(3, 15, 0);
        x.remove(0, 1);
        x.refresh();
        x.open(2);
        x.write(4, 255, 0);
        x.refresh();
        x.write(1, 3, 2);
        x.refresh();
        x.sync();
        x.write(5, 1, 0);
        x.drop(2, 3);
        x.write(5, 1, 77);
        return x;
    }
}
