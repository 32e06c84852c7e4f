import java.lang.reflect.InvocationTargetException;
import java.lang.reflect.Method;
import java.lang.reflect.Modifier;
import java.util.List;
import java.util.TreeMap;

/**
 * What the tests share. Each static method of a test that takes and answers nothing is a case of its own: the name
 * of the class tells the promise, that of the method what is looked at.
 */
abstract class Cases {
    static final int LEAST = Integer.MIN_VALUE;
    static final int MOST = Integer.MAX_VALUE;

    private static final int SECONDS = 120;
    private static volatile String name = "";
    private static int looked = 0;
    private static int wrong = 0;

    interface Call {
        Object on(Counted x);
    }

    /** Runs all cases of a class; exit code 1 if an answer was wrong, or a case looked at none or doesn't end. */
    static void run(Class<?> test) {
        watch();
        TreeMap<String, Method> cases = new TreeMap<>();
        for (Method m : test.getDeclaredMethods()) {
            if (isCase(m)) {
                cases.put(m.getName(), m);
            }
        }
        for (Method m : cases.values()) {
            runCase(m);
        }
        System.out.println(cases.size() + " cases, " + looked + " answers looked at, " + wrong + " wrong");
        if (wrong != 0 || cases.isEmpty()) {
            System.exit(1);
        }
    }

    /** A call that doesn't end fails its test, too; the test is far quicker than this. */
    private static void watch() {
        Thread watch = new Thread(() -> {
            try {
                Thread.sleep(1000L * SECONDS);
            } catch (InterruptedException e) {
                return;
            }
            System.out.println(name + ": " + Counted.latest() + " has not ended after " + SECONDS + " seconds");
            Runtime.getRuntime().halt(1);
        });
        watch.setDaemon(true);
        watch.start();
    }

    private static boolean isCase(Method m) {
        return Modifier.isStatic(m.getModifiers()) && m.getParameterCount() == 0 && m.getReturnType() == void.class
                && !m.isSynthetic();
    }

    private static void runCase(Method m) {
        name = m.getDeclaringClass().getName() + "." + m.getName();
        int before = looked;
        try {
            m.invoke(null);
        } catch (InvocationTargetException e) {
            fail(Counted.latest() + " ended in " + e.getCause());
        } catch (IllegalAccessException e) {
            fail("the case can't be called: " + e);
        }
        if (looked == before) {
            fail("the case looks at no answer");
        }
    }

    private static void fail(String what) {
        wrong++;
        System.out.println(name + ": " + what);
    }

    /** The answer that is due from the call that was just made. */
    static void due(Object want, Object got) {
        looked++;
        if (!want.equals(got)) {
            fail(Counted.latest() + " answered " + got + ", due is " + want);
        }
    }

    static void due(String what, Object want, Object got) {
        looked++;
        if (!want.equals(got)) {
            fail(what + " is " + got + ", due is " + want);
        }
    }

    static Counted at(State state) {
        Counted x = new Counted();
        state.build(x);
        return x;
    }

    /** A call in a state, and its answer. */
    static void answers(State state, Object want, Call call) {
        due(want, call.on(at(state)));
    }

    /** A call that is refused in a state: its answer, and that nothing that can be seen has changed. */
    static void refused(State state, Object want, Call call) {
        answers(state, want, call);
        String text = Counted.latest();
        same("what is seen after " + text, Look.all(state), Look.all(state.then(x -> call.on(x))));
    }

    /** Two lists of looks are the same; told is the first that isn't. */
    static void same(String what, List<String> want, List<String> got) {
        looked++;
        for (int i = 0; i < want.size() || i < got.size(); i++) {
            String a = i < want.size() ? want.get(i) : "nothing more";
            String b = i < got.size() ? got.get(i) : "nothing more";
            if (!a.equals(b)) {
                fail(what + ": " + b + ", due is " + a);
                return;
            }
        }
    }

    /** Numbers that are none of 0 .. n - 1: next to them, at the ends of int, and with the low bits of one of them. */
    static int[] outside(int n) {
        return new int[] {LEAST, LEAST + 1, -65536, -65535, -256, -255, -2, -1, n, n + 1, n + 24, 256 * n + 256,
            65536 * n + 65536, 65536 * n + 65537, MOST - 1, MOST};
    }

    /** As outside, but without -1, where that is none. */
    static int[] outsideAndNotNone(int n) {
        int[] all = outside(n);
        for (int i = 0; i < all.length; i++) {
            if (all[i] == -1) {
                all[i] = -3;
            }
        }
        return all;
    }

    /** The bytes of a file in a state, with blanks between them. */
    static String bytes(State state) {
        StringBuilder bytes = new StringBuilder();
        Counted x = at(state);
        int n = x.count(5);
        for (int i = 0; i < n; i++) {
            if (x.isUsedUp()) {
                x = at(state);
            }
            bytes.append(i == 0 ? "" : " ").append(x.octet(i));
        }
        return bytes.toString();
    }

    static int mostOf(int property) {
        return property <= 7 ? 1 : property <= 15 ? 255 : 65535;
    }
}
