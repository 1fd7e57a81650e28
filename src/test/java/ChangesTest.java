/** Promises 2 to 5, 12 and 13: write, remove, drop, conflict, get, number. */
public final class ChangesTest {
    private static final Due DUE = new Due("ChangesTest");

    public static void main(String[] args) {
        write();
        writeRefused();
        remove();
        removeRefused();
        drop();
        dropOfAnEarlierView();
        dropRefused();
        conflict();
        conflictOutlivesACrash();
        getAndNumber();
        DUE.end();
    }

    private static void write() {
        LiveViews x = new LiveViews();
        DUE.is("write first key", x.write(0, 1, 0), 1);
        DUE.is("write last key", x.write(15, 255, -1), 2);
        DUE.is("write again", x.write(0, 2, 1), 3);
        DUE.is("write whatever it is", x.write(0, 3, -1), 4);
        DUE.is("get(0)", x.get(0), 3);
        DUE.is("get(15)", x.get(15), 255);
        x.remove(0, 4);
        DUE.is("0 is expected of a removed one", x.write(0, 7, 0), 6);
        DUE.is("told(3)", x.told(3), 6);
    }

    private static void writeRefused() {
        LiveViews x = new LiveViews();
        x.write(1, 1, 0);
        int[][] outside = {{-1, 1, -1}, {16, 1, -1}, {0, 0, -1}, {0, -1, -1}, {0, 256, -1},
            {0, 1, -2}, {1, 1, -2}, {Integer.MIN_VALUE, 1, 0}, {Integer.MAX_VALUE, 1, 0},
            {0, Integer.MIN_VALUE, 0}, {0, Integer.MAX_VALUE, 0}, {0, 1, Integer.MIN_VALUE},
            {1, 0, 5}, {16, 1, 5}};
        for (int[] a : outside) {
            DUE.is("write outside", x.write(a[0], a[1], a[2]), LiveViews.OUTSIDE);
        }
        DUE.is("OUTSIDE tells no conflict", x.conflict(1), LiveViews.NONE);
        DUE.is("lives, none expected", x.write(1, 2, 0), LiveViews.CONFLICT);
        DUE.is("another number", x.write(1, 2, 2), LiveViews.CONFLICT);
        DUE.is("a number that no change can have", x.write(1, 2, 601), LiveViews.CONFLICT);
        DUE.is("the largest number", x.write(1, 2, Integer.MAX_VALUE), LiveViews.CONFLICT);
        DUE.is("does not live", x.write(0, 2, 1), LiveViews.CONFLICT);
        x.remove(1, -1);
        DUE.is("the number of its removal", x.write(1, 2, 2), LiveViews.CONFLICT);
        DUE.is("the number before its removal", x.write(1, 2, 1), LiveViews.CONFLICT);
        DUE.is("told(3)", x.told(3), 2);
        DUE.is("get(1)", x.get(1), 0);
        DUE.is("get(0)", x.get(0), 0);
    }

    private static void remove() {
        LiveViews x = new LiveViews();
        DUE.is("remove what was never there", x.remove(15, 0), 1);
        DUE.is("remove whatever it is", x.remove(15, -1), 2);
        x.write(15, 4, 0);
        DUE.is("remove", x.remove(15, 3), 4);
        DUE.is("remove once more", x.remove(15, 0), 5);
        DUE.is("get(15)", x.get(15), 0);
        DUE.is("number(15)", x.number(15), 5);
    }

    private static void removeRefused() {
        LiveViews x = new LiveViews();
        x.write(2, 1, 0);
        DUE.is("key -1", x.remove(-1, -1), LiveViews.OUTSIDE);
        DUE.is("key 16", x.remove(16, -1), LiveViews.OUTSIDE);
        DUE.is("key largest", x.remove(Integer.MAX_VALUE, -1), LiveViews.OUTSIDE);
        DUE.is("expected -2", x.remove(2, -2), LiveViews.OUTSIDE);
        DUE.is("expected smallest", x.remove(2, Integer.MIN_VALUE), LiveViews.OUTSIDE);
        DUE.is("it lives", x.remove(2, 0), LiveViews.CONFLICT);
        DUE.is("conflict(1)", x.conflict(1), 0);
        DUE.is("conflict(2)", x.conflict(2), 1);
        DUE.is("it does not live", x.remove(3, 1), LiveViews.CONFLICT);
        DUE.is("conflict(1)", x.conflict(1), 1);
        DUE.is("conflict(2)", x.conflict(2), 0);
        DUE.is("get(2)", x.get(2), 1);
        DUE.is("told(3)", x.told(3), 1);
    }

    private static void drop() {
        LiveViews x = new LiveViews();
        x.write(9, 6, 0);
        x.write(4, 7, 0);
        x.write(0, 4, 0);
        x.write(1, 2, 0);
        x.refresh();
        DUE.is("all words of the query", x.drop(1, 6), 2);
        DUE.is("the lower key first", x.number(4), 5);
        DUE.is("then the higher one", x.number(9), 6);
        DUE.is("one word is too few", x.get(0), 4);
        DUE.is("missed", x.conflict(0), 0);
        DUE.is("they live in the view", x.find(1, 6), 2);
        DUE.is("both are missed now", x.drop(1, 6), 0);
        DUE.is("missed", x.conflict(0), 2);
        DUE.is("no query: all", x.drop(1, 0), 2);
        DUE.is("missed", x.conflict(0), 2);
        DUE.is("told(3)", x.told(3), 8);
        DUE.is("no such words", x.drop(1, 128), 0);
        DUE.is("missed", x.conflict(0), 0);
    }

    private static void dropOfAnEarlierView() {
        LiveViews x = new LiveViews();
        x.write(0, 1, 0);
        x.write(1, 1, 0);
        x.write(2, 1, 0);
        x.refresh();
        x.open(1);
        x.write(0, 1, -1);
        x.remove(1, -1);
        x.refresh();
        x.write(3, 1, 0);
        DUE.is("only what is still as it was", x.drop(1, 1), 1);
        DUE.is("a replaced and a removed one", x.conflict(0), 2);
        DUE.is("the same words, written later", x.get(0), 1);
        DUE.is("dropped", x.get(2), 0);
        DUE.is("not in the view", x.get(3), 1);
        DUE.is("view 0 has none", x.drop(0, 0), 0);
    }

    private static void dropRefused() {
        LiveViews x = new LiveViews();
        x.write(0, 1, 0);
        x.refresh();
        x.write(0, 1, -1);
        x.drop(1, 1);
        DUE.is("missed", x.conflict(0), 1);
        DUE.is("no such view", x.drop(2, 0), LiveViews.UNKNOWN);
        DUE.is("view -1", x.drop(-1, 0), LiveViews.UNKNOWN);
        DUE.is("view 150", x.drop(150, 0), LiveViews.UNKNOWN);
        DUE.is("UNKNOWN before OUTSIDE", x.drop(2, 256), LiveViews.UNKNOWN);
        DUE.is("query -1", x.drop(1, -1), LiveViews.OUTSIDE);
        DUE.is("query 256", x.drop(1, 256), LiveViews.OUTSIDE);
        DUE.is("query 255 is none", x.drop(0, 255), 0);
        x.drop(1, 1);
        DUE.is("refused", x.drop(1, 256), LiveViews.OUTSIDE);
        DUE.is("a refused one tells nothing", x.conflict(0), 1);
        DUE.is("told(3)", x.told(3), 2);
    }

    private static void conflict() {
        LiveViews x = new LiveViews();
        DUE.is("conflict(-1)", x.conflict(-1), LiveViews.OUTSIDE);
        DUE.is("conflict(3)", x.conflict(3), LiveViews.OUTSIDE);
        DUE.is("conflict(smallest)", x.conflict(Integer.MIN_VALUE), LiveViews.OUTSIDE);
        x.write(0, 1, 0);
        x.write(0, 1, 600);
        DUE.is("expected", x.conflict(1), 600);
        DUE.is("found", x.conflict(2), 1);
        x.write(0, 1, 1);
        DUE.is("a change without one leaves it", x.conflict(1), 600);
        DUE.is("a change without one leaves it", x.conflict(2), 1);
        x.remove(0, 1);
        DUE.is("the latest one", x.conflict(1), 1);
        DUE.is("the latest one", x.conflict(2), 2);
        x.remove(0, 2);
        x.write(0, 1, 3);
        DUE.is("0 is found of a removed one", x.conflict(2), 0);
    }

    private static void conflictOutlivesACrash() {
        LiveViews x = new LiveViews();
        x.write(0, 1, 0);
        x.refresh();
        x.write(0, 1, -1);
        x.drop(1, 0);
        x.write(0, 1, 9);
        x.crash();
        DUE.is("conflict(0)", x.conflict(0), 1);
        DUE.is("conflict(1)", x.conflict(1), 9);
        DUE.is("conflict(2)", x.conflict(2), 2);
    }

    private static void getAndNumber() {
        LiveViews x = new LiveViews();
        x.write(15, 200, 0);
        x.write(0, 3, 0);
        DUE.is("get(15)", x.get(15), 200);
        DUE.is("number(15)", x.number(15), 1);
        x.remove(15, 1);
        DUE.is("get(15)", x.get(15), 0);
        DUE.is("number(15)", x.number(15), 3);
        DUE.is("number(14)", x.number(14), 0);
        int[] outside = {-1, 16, Integer.MIN_VALUE, Integer.MAX_VALUE};
        for (int key : outside) {
            DUE.is("get(" + key + ")", x.get(key), LiveViews.OUTSIDE);
            DUE.is("number(" + key + ")", x.number(key), LiveViews.OUTSIDE);
        }
    }
}
