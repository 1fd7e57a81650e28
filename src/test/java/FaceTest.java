import java.lang.reflect.Constructor;
import java.lang.reflect.Field;
import java.lang.reflect.Method;
import java.lang.reflect.Modifier;
import java.util.Set;
import java.util.TreeSet;

/** The public face, and promise 1: a new object. */
public final class FaceTest {
    private static final Due DUE = new Due("FaceTest");

    private static final Set<String> FACE = Set.of("write/3", "remove/2", "drop/2", "conflict/1",
        "refresh/0", "commit/0", "sync/0", "crash/0", "open/1", "close/1", "get/1", "number/1",
        "at/2", "find/2", "match/4", "segments/1", "segment/3", "told/1");

    public static void main(String[] args) {
        constants();
        members();
        newObject();
        twoObjectsAreApart();
        DUE.end();
    }

    private static void constants() {
        DUE.is("NONE", LiveViews.NONE, -1);
        DUE.is("UNKNOWN", LiveViews.UNKNOWN, -2);
        DUE.is("OUTSIDE", LiveViews.OUTSIDE, -3);
        DUE.is("CONFLICT", LiveViews.CONFLICT, -4);
        DUE.is("ROOM", LiveViews.ROOM, -5);
    }

    private static void members() {
        Set<String> open = new TreeSet<>();
        for (Method method : LiveViews.class.getDeclaredMethods()) {
            if (!Modifier.isPrivate(method.getModifiers())) {
                open.add(method.getName() + "/" + method.getParameterCount());
                DUE.holds(method.getName() + " is public", Modifier.isPublic(method.getModifiers()));
                DUE.holds(method.getName() + " answers int", method.getReturnType() == int.class);
            }
        }
        DUE.holds("the methods " + open, open.equals(new TreeSet<>(FACE)));
        for (Method method : LiveViews.class.getDeclaredMethods()) {
            if (Modifier.isPrivate(method.getModifiers())) {
                DUE.holds("private " + method.getName() + " has a name of its own",
                    FACE.stream().noneMatch(face -> face.startsWith(method.getName() + "/")));
            }
        }
        int fields = 0;
        for (Field field : LiveViews.class.getDeclaredFields()) {
            fields += Modifier.isPrivate(field.getModifiers()) ? 0 : 1;
        }
        DUE.is("fields that are not private", fields, 5);
        Constructor<?>[] constructors = LiveViews.class.getDeclaredConstructors();
        DUE.is("constructors", constructors.length, 1);
        DUE.is("parameters of it", constructors[0].getParameterCount(), 0);
        DUE.holds("it is public", Modifier.isPublic(constructors[0].getModifiers()));
        DUE.holds("the class is final", Modifier.isFinal(LiveViews.class.getModifiers()));
    }

    private static void newObject() {
        LiveViews x = new LiveViews();
        for (int what = 0; what <= 6; what++) {
            DUE.is("told(" + what + ")", x.told(what), 0);
        }
        DUE.is("told(7)", x.told(7), 1);
        DUE.is("conflict(0)", x.conflict(0), 0);
        DUE.is("conflict(1)", x.conflict(1), LiveViews.NONE);
        DUE.is("conflict(2)", x.conflict(2), LiveViews.NONE);
        DUE.is("segments(0)", x.segments(0), 0);
        DUE.is("find(0, 0)", x.find(0, 0), 0);
        for (int key = 0; key < 16; key++) {
            DUE.is("get", x.get(key), 0);
            DUE.is("number", x.number(key), 0);
            DUE.is("at", x.at(0, key), 0);
        }
        DUE.is("refresh()", x.refresh(), 0);
        DUE.is("commit()", x.commit(), 0);
        DUE.is("sync()", x.sync(), 0);
        DUE.is("crash()", x.crash(), 0);
        DUE.is("told(0)", x.told(0), 0);
    }

    private static void twoObjectsAreApart() {
        LiveViews x = new LiveViews();
        LiveViews y = new LiveViews();
        x.write(0, 1, 0);
        x.refresh();
        DUE.is("y.get(0)", y.get(0), 0);
        DUE.is("y.told(0)", y.told(0), 0);
        DUE.is("y.told(6)", y.told(6), 0);
    }
}
