/** Promises 7, 8, 9 and 19: commit, sync, crash, and what is told of them. */
public final class CrashTest {
    private static final Due DUE = new Due("CrashTest");

    public static void main(String[] args) {
        commit();
        commitOfARefreshedView();
        sync();
        crashWithNothingSafe();
        crashToTheCommit();
        crashRefreshesWhatIsSafe();
        crashLetsGoOfTheLatest();
        numbersAreGivenAgain();
        crashClosesAll();
        crashKeepsCounts();
        DUE.end();
    }

    private static void commit() {
        LiveViews x = new LiveViews();
        x.write(0, 1, 0);
        DUE.is("commit()", x.commit(), 1);
        DUE.is("told(0)", x.told(0), 1);
        DUE.is("told(1)", x.told(1), 1);
        DUE.is("told(2)", x.told(2), 1);
        DUE.is("told(7)", x.told(7), 1);
        DUE.is("nothing new", x.commit(), 1);
        x.write(0, 2, 1);
        x.refresh();
        DUE.is("a refresh is no commit", x.told(1), 1);
        DUE.is("nor safe", x.told(2), 1);
        DUE.is("both are held", x.told(7), 2);
    }

    private static void commitOfARefreshedView() {
        LiveViews x = new LiveViews();
        x.write(0, 1, 0);
        x.refresh();
        DUE.is("the same view", x.commit(), 1);
        DUE.is("told(1)", x.told(1), 1);
        DUE.is("told(2)", x.told(2), 1);
        DUE.is("view 0 is let go", x.at(0, 0), LiveViews.UNKNOWN);
    }

    private static void sync() {
        LiveViews x = new LiveViews();
        x.write(0, 1, 0);
        x.remove(1, 0);
        DUE.is("two were not safe", x.sync(), 2);
        DUE.is("told(2)", x.told(2), 2);
        DUE.is("none is not safe", x.sync(), 0);
        x.write(0, 1, 1);
        DUE.is("told(2)", x.told(2), 2);
        DUE.is("one was not safe", x.sync(), 1);
        DUE.is("no view is made", x.told(0), 0);
        DUE.is("nor committed", x.told(1), 0);
        DUE.is("all are safe behind a commit", x.commit(), 1);
        DUE.is("all are safe behind a commit", x.sync(), 0);
    }

    private static void crashWithNothingSafe() {
        LiveViews x = new LiveViews();
        x.write(0, 1, 0);
        x.write(1, 1, 0);
        x.refresh();
        DUE.is("crash()", x.crash(), 2);
        DUE.is("get(0)", x.get(0), 0);
        DUE.is("number(1)", x.number(1), 0);
        DUE.is("told(0)", x.told(0), 0);
        DUE.is("told(3)", x.told(3), 0);
        DUE.is("at(1, 0)", x.at(1, 0), LiveViews.UNKNOWN);
        DUE.is("told(5)", x.told(5), 0);
        DUE.is("told(7)", x.told(7), 1);
    }

    private static void crashToTheCommit() {
        LiveViews x = new LiveViews();
        x.write(0, 1, 0);
        x.write(1, 2, 0);
        x.commit();
        x.write(0, 4, 1);
        x.remove(1, 2);
        x.write(2, 8, 0);
        DUE.is("crash()", x.crash(), 3);
        DUE.is("get(0)", x.get(0), 1);
        DUE.is("get(1)", x.get(1), 2);
        DUE.is("get(2)", x.get(2), 0);
        DUE.is("number(0)", x.number(0), 1);
        DUE.is("number(1)", x.number(1), 2);
        DUE.is("number(2)", x.number(2), 0);
        DUE.is("no new view", x.told(0), 1);
        DUE.is("and again", x.crash(), 0);
    }

    private static void crashRefreshesWhatIsSafe() {
        LiveViews x = new LiveViews();
        x.write(0, 1, 0);
        x.write(1, 1, 0);
        x.commit();
        x.write(0, 2, 1);
        x.remove(1, 2);
        x.write(5, 4, 0);
        x.sync();
        x.write(0, 8, 3);
        x.write(1, 8, 0);
        DUE.is("crash()", x.crash(), 2);
        DUE.is("a new view", x.told(0), 2);
        DUE.is("the commit stays", x.told(1), 1);
        DUE.is("safe stays", x.told(2), 5);
        DUE.is("at(2, 0)", x.at(2, 0), 2);
        DUE.is("at(2, 1)", x.at(2, 1), 0);
        DUE.is("at(2, 5)", x.at(2, 5), 4);
        DUE.is("at(1, 0)", x.at(1, 0), 1);
        DUE.is("segment 0 has no live row", x.segments(2), 1);
        DUE.is("segment(2, 0, 0)", x.segment(2, 0, 0), 1);
        DUE.is("segment(2, 0, 10)", x.segment(2, 0, 10), 0);
        DUE.is("segment(2, 0, 11)", x.segment(2, 0, 11), 5);
        DUE.is("segment(1, 0, 2)", x.segment(1, 0, 2), 2);
    }

    private static void crashLetsGoOfTheLatest() {
        LiveViews x = new LiveViews();
        x.write(0, 1, 0);
        x.refresh();
        x.sync();
        DUE.is("no change is lost", x.crash(), 0);
        DUE.is("yet the view is made anew", x.told(0), 2);
        DUE.is("the one before is let go", x.at(1, 0), LiveViews.UNKNOWN);
        DUE.is("and its segment", x.told(5), 1);
        DUE.is("segment(2, 0, 0)", x.segment(2, 0, 0), 1);
        DUE.is("once more", x.crash(), 0);
        DUE.is("told(0)", x.told(0), 3);
    }

    private static void numbersAreGivenAgain() {
        LiveViews x = new LiveViews();
        x.write(0, 1, 0);
        x.commit();
        x.write(1, 1, 0);
        x.write(2, 1, 0);
        x.refresh();
        x.crash();
        DUE.is("the number behind safe", x.write(3, 4, 0), 2);
        DUE.is("a new number for the view", x.refresh(), 3);
        DUE.is("at(3, 3)", x.at(3, 3), 4);
        DUE.is("at(3, 1)", x.at(3, 1), 0);
        DUE.is("at(1, 3)", x.at(1, 3), 0);
        DUE.is("a new number for the segment", x.segment(3, 1, 0), 2);
    }

    private static void crashClosesAll() {
        LiveViews x = new LiveViews();
        x.write(0, 1, 0);
        x.commit();
        x.open(1);
        x.open(1);
        x.write(0, 2, 1);
        x.refresh();
        x.open(2);
        x.crash();
        DUE.is("close what is still held", x.close(1), LiveViews.OUTSIDE);
        DUE.is("close what is let go", x.close(2), LiveViews.UNKNOWN);
        DUE.is("open it anew", x.open(1), 1);
        DUE.is("told(7)", x.told(7), 1);
    }

    private static void crashKeepsCounts() {
        LiveViews x = new LiveViews();
        x.write(0, 1, 0);
        x.write(1, 1, 0);
        x.refresh();
        x.crash();
        DUE.is("copied", x.told(4), 2);
        DUE.is("made", x.told(6), 1);
        x.write(0, 1, 0);
        x.refresh();
        DUE.is("copied", x.told(4), 3);
        DUE.is("made", x.told(6), 2);
    }
}
