import java.lang.reflect.Constructor;
import java.lang.reflect.Field;
import java.lang.reflect.Method;
import java.lang.reflect.Modifier;
import java.util.TreeSet;

/** The public face, and promise 1: a new object. */
public final class FaceTest {
    private static final Check CHECK = new Check();

    public static void main(String[] args) {
        face();
        constructors();
        newObject();
        objectsShareNothing();
        CHECK.end();
    }

    private static void face() {
        TreeSet<String> methods = new TreeSet<>();
        for (Method m : RouteEngine.class.getDeclaredMethods()) {
            if (!Modifier.isPrivate(m.getModifiers())) {
                methods.add(m.toString().replace("RouteEngine.", ""));
            }
        }
        CHECK.same("methods", String.join("; ", methods),
            "public boolean clause(int,int,int,boolean,boolean); public boolean clear(int); "
            + "public boolean fail(int,int,int); public boolean put(int,char); public int body(int,int); "
            + "public int count(int); public int delivered(int); public int group(int,int); "
            + "public int key(int,int); public int pass(int); public int read(); "
            + "public int send(int,int,int); public int work(); public void forget()");
        TreeSet<String> fields = new TreeSet<>();
        for (Field f : RouteEngine.class.getDeclaredFields()) {
            if (!Modifier.isPrivate(f.getModifiers())) {
                fields.add(f.toString());
            }
        }
        CHECK.same("fields", String.join("; ", fields), "public static final int RouteEngine.NONE");
        CHECK.due("NONE", RouteEngine.NONE, -1);
        CHECK.yes("final", Modifier.isFinal(RouteEngine.class.getModifiers()));
    }

    private static void constructors() {
        Constructor<?>[] all = RouteEngine.class.getDeclaredConstructors();
        CHECK.due("constructors", all.length, 1);
        CHECK.same("constructor", all[0].toString(), "public RouteEngine()");
    }

    private static void newObject() {
        Engine x = new Engine();
        CHECK.counts(x, "0 0 0 0 0 0 0 0 0 0 0 0 0");
        for (int d = 0; d <= 4; d++) {
            CHECK.due("delivered", x.delivered(d), 0);
            CHECK.due("body", x.body(d, 0), 0);
            CHECK.due("key", x.key(d, 0), 0);
        }
        CHECK.due("group", x.group(0, 0), 0);
        CHECK.due("work", x.work(), -1);
        for (int r = 0; r < 4; r++) {
            CHECK.due("send through an empty route", x.send(r, 5, 6), 1);
        }
        CHECK.due("read", x.read(), 0);
        CHECK.due("pass", x.pass(1), 0);
        CHECK.counts(x, "4 4 0 0 0 0 0 0 1 0 0 0 0");
    }

    private static void objectsShareNothing() {
        Engine x = CHECK.engine("!0");
        Engine y = new Engine();
        CHECK.due("send", x.send(0, 1, 2), 1);
        CHECK.due("send", y.send(0, 1, 2), 1);
        CHECK.due("delivered", x.delivered(0), 1);
        CHECK.due("delivered", y.delivered(0), 0);
    }
}
