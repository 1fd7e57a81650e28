import java.util.List;
import java.util.function.Consumer;
import java.util.function.Supplier;
import java.util.function.ToIntFunction;

/**
 * Two objects with the same calls behind them. One of them gets a call more, that must change
 * nothing: then both must answer all that is asked and done from there on alike.
 */
final class Twins {
    private static final List<Consumer<Calls>> QUESTIONS = List.of(Twins::askNow,
        x -> askView(x, x.told(0)), x -> askView(x, x.told(1)), x -> askView(x, 2),
        Twins::askHeld, Twins::goOn, Twins::goOnBehindACrash);

    private Twins() { }

    /** A CONFLICT may change what conflict() tells of it; nothing else may. */
    static void refused(Due due, Supplier<Calls> lead, ToIntFunction<Calls> call, int want) {
        changesNothing(due, lead, x -> due.is(x, call.applyAsInt(x), want));
        if (want != LiveViews.CONFLICT) {
            compare(due, lead, x -> call.applyAsInt(x), Twins::askConflict);
        }
    }

    static void changesNothing(Due due, Supplier<Calls> lead, Consumer<Calls> call) {
        for (Consumer<Calls> question : QUESTIONS) {
            compare(due, lead, call, question);
        }
    }

    private static void compare(Due due, Supplier<Calls> lead, Consumer<Calls> call,
            Consumer<Calls> question) {
        Calls x = lead.get();
        Calls y = lead.get();
        call.accept(x);
        String last = x.last();
        int fromX = x.count();
        int fromY = y.count();
        question.accept(x);
        question.accept(y);
        List<String> got = x.answersFrom(fromX);
        List<String> want = y.answersFrom(fromY);
        due.holds(last + " changes nothing; behind it " + got + ", without it " + want,
            got.equals(want));
    }

    private static void askNow(Calls x) {
        for (int what = 0; what <= 7; what++) {
            x.told(what);
        }
        for (int key = 0; key <= 15; key++) {
            x.get(key);
            x.number(key);
        }
        x.conflict(0);
    }

    private static void askConflict(Calls x) {
        x.conflict(1);
        x.conflict(2);
    }

    private static void askView(Calls x, int view) {
        for (int key = 0; key <= 15; key++) {
            x.at(view, key);
            x.match(view, 0, 2, key);
        }
        x.find(view, 0);
        x.segments(view);
        for (int i = 0; i <= 2; i++) {
            for (int what = 0; what <= 25; what += what == 2 ? 8 : 1) {
                x.segment(view, i, what);
            }
        }
    }

    private static void askHeld(Calls x) {
        for (int view = 0; view <= 5; view++) {
            x.open(view);
            x.close(view);
            x.close(view);
        }
        x.open(x.told(0));
    }

    private static void goOn(Calls x) {
        x.write(7, 6, -1);
        x.remove(1, -1);
        x.sync();
        x.write(8, 9, 0);
        x.refresh();
        x.drop(x.told(0), 2);
        x.conflict(0);
        x.drop(x.told(1), 1);
        x.conflict(0);
        x.commit();
        askNow(x);
    }

    private static void goOnBehindACrash(Calls x) {
        x.crash();
        askNow(x);
        x.write(7, 6, -1);
        x.refresh();
        x.commit();
        askNow(x);
    }
}
