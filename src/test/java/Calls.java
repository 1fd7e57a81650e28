import java.util.ArrayList;
import java.util.Arrays;
import java.util.List;

/** An object of LiveViews with a list of its calls: behind the 512th, nothing is promised. */
final class Calls {
    private static final int MOST = 512;

    private final LiveViews object = new LiveViews();
    private final List<String> calls = new ArrayList<>();
    private final List<String> answers = new ArrayList<>();

    private int answered(int answer, String call, int... arguments) {
        if (calls.size() == MOST) {
            throw new IllegalStateException("the test makes more than " + MOST + " calls");
        }
        String list = Arrays.toString(arguments);
        calls.add(call + "(" + list.substring(1, list.length() - 1) + ")");
        answers.add(last() + ": " + answer);
        return answer;
    }

    String last() {
        return calls.isEmpty() ? "new LiveViews()" : calls.get(calls.size() - 1);
    }

    int count() {
        return calls.size();
    }

    List<String> answersFrom(int call) {
        return answers.subList(call, answers.size());
    }

    int write(int key, int words, int expected) {
        return answered(object.write(key, words, expected), "write", key, words, expected);
    }

    int remove(int key, int expected) {
        return answered(object.remove(key, expected), "remove", key, expected);
    }

    int drop(int view, int query) {
        return answered(object.drop(view, query), "drop", view, query);
    }

    int conflict(int what) {
        return answered(object.conflict(what), "conflict", what);
    }

    int refresh() {
        return answered(object.refresh(), "refresh");
    }

    int commit() {
        return answered(object.commit(), "commit");
    }

    int sync() {
        return answered(object.sync(), "sync");
    }

    int crash() {
        return answered(object.crash(), "crash");
    }

    int open(int view) {
        return answered(object.open(view), "open", view);
    }

    int close(int view) {
        return answered(object.close(view), "close", view);
    }

    int get(int key) {
        return answered(object.get(key), "get", key);
    }

    int number(int key) {
        return answered(object.number(key), "number", key);
    }

    int at(int view, int key) {
        return answered(object.at(view, key), "at", view, key);
    }

    int find(int view, int query) {
        return answered(object.find(view, query), "find", view, query);
    }

    int match(int view, int query, int wish, int i) {
        return answered(object.match(view, query, wish, i), "match", view, query, wish, i);
    }

    int segments(int view) {
        return answered(object.segments(view), "segments", view);
    }

    int segment(int view, int i, int what) {
        return answered(object.segment(view, i, what), "segment", view, i, what);
    }

    int told(int what) {
        return answered(object.told(what), "told", what);
    }
}
