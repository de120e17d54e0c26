import java.io.IOException;
import java.lang.reflect.Constructor;
import java.lang.reflect.Field;
import java.lang.reflect.InvocationTargetException;
import java.lang.reflect.Method;
import java.lang.reflect.Modifier;
import java.nio.file.Files;
import java.nio.file.Path;
import java.util.ArrayList;
import java.util.List;
import java.util.Map;
import java.util.Random;
import java.util.Set;
import java.util.TreeMap;
import java.util.TreeSet;
import java.util.regex.Matcher;
import java.util.regex.Pattern;

/** The public face, rules of LANGUAGE.md that can be looked at, calls with wild arguments, what calls make. */
public final class FaceTest {
    private static final Due DUE = new Due();

    private static final String FACE = "feed(iiiii)i back(i)i read()i place()i age(ii)i where(ii)i earshot(ii)i may(iiib)i "
            + "say(iiii)i show(iii)i leave(iii)i ask(iiii)i drop(i)i doing(ii)i judge()i cost()i knows(ii)i when(ii)i "
            + "seen(iii)i soon(iiiiib)i all(iiiib)i cheap(iiiii)i cheapAt(iiiii)i secret(ii)i below(ii)i stand(iii)i "
            + "best(iii)i lost(ii)i before(ii)i missed(i)i harm()i can(i)i task(ii)i rank(ii)i share(iii)i rule(i)i "
            + "ruled(ii)i day(iii)i kept(iiii)i hold(i)b restore(i)b count(i)i";

    public static void main(String[] args) throws IOException, ReflectiveOperationException {
        face();
        source();
        wild();
        made();
        DUE.end("FaceTest");
    }

    private static char sign(Class<?> type) {
        return type == int.class ? 'i' : type == boolean.class ? 'b' : '?';
    }

    private static void face() throws ReflectiveOperationException {
        Set<String> seen = new TreeSet<>();
        Set<String> names = new TreeSet<>();
        for (Method m : OnlyUpward.class.getDeclaredMethods()) {
            StringBuilder s = new StringBuilder(m.getName()).append('(');
            for (Class<?> type : m.getParameterTypes()) {
                s.append(sign(type));
            }
            s.append(')').append(sign(m.getReturnType()));
            if (!Modifier.isPrivate(m.getModifiers())) {
                seen.add(s.toString());
                names.add(m.getName());
                DUE.is("public, not static: " + s, m.getModifiers(), Modifier.PUBLIC);
            }
        }
        for (Method m : OnlyUpward.class.getDeclaredMethods()) {
            boolean clash = Modifier.isPrivate(m.getModifiers()) && names.contains(m.getName());
            DUE.is("private method with a public one's name: " + m.getName(), clash, false);
        }
        DUE.is("the face's methods", seen.equals(new TreeSet<>(Set.of(FACE.split(" ")))), true);
        DUE.is("the class", OnlyUpward.class.getModifiers(), Modifier.PUBLIC | Modifier.FINAL);
        for (Field f : OnlyUpward.class.getDeclaredFields()) {
            DUE.is("private field " + f.getName(), Modifier.isPrivate(f.getModifiers()), !f.getName().equals("NONE"));
        }
        Field none = OnlyUpward.class.getField("NONE");
        DUE.is("NONE's modifiers", none.getModifiers(), Modifier.PUBLIC | Modifier.STATIC | Modifier.FINAL);
        DUE.is("NONE", none.getInt(null), -1);
        Constructor<?>[] made = OnlyUpward.class.getDeclaredConstructors();
        DUE.is("one constructor", made.length, 1);
        DUE.is("public constructor", made[0].getModifiers(), Modifier.PUBLIC);
        DUE.is("of nothing", made[0].getParameterCount(), 0);
    }

    private static void source() throws IOException {
        String text = Files.readString(Path.of("src/main/java/OnlyUpward.java"));
        String code = text.replaceAll("(?s)/\\*.*?\\*/", " ").replaceAll("//[^\n]*", " ");
        String[] ruledOut = {"\\bthrow\\b", "\\bthrows\\b", "\\btry\\b", "\\bcatch\\b", "\\bsynchronized\\b", "\\bassert\\b",
            "->", "::", "\\bpackage\\b", "\\bprotected\\b", "\\bfloat\\b", "\\bdouble\\b", "Exact\\b", "\\bSystem\\.(?!arraycopy)",
            "\"\\s*\\+", "\\+\\s*\"", "\\bnull\\b", "\\bvar\\b", "\\bRandom\\b", "\\bThread\\b"};
        for (String out : ruledOut) {
            Matcher m = Pattern.compile(out).matcher(code);
            DUE.is("found in the source: " + out, m.find(), false);
        }
        Matcher imports = Pattern.compile("import ([\\w.]+);").matcher(code);
        while (imports.find()) {
            DUE.is("import " + imports.group(1), imports.group(1).equals("java.util.Arrays"), true);
        }
        Matcher classes = Pattern.compile("\\bclass (\\w+)").matcher(code);
        int n = 0;
        while (classes.find()) {
            n++;
        }
        DUE.is("some twelve classes: " + n, n <= 12, true);
        methodsAreShort(code);
        recursionIsPrivate(code);
        for (Class<?> inside : OnlyUpward.class.getDeclaredClasses()) {
            DUE.is("static: " + inside, Modifier.isStatic(inside.getModifiers()), true);
            int fields = 0;
            for (Field f : inside.getDeclaredFields()) {
                fields += Modifier.isStatic(f.getModifiers()) ? 0 : 1;
            }
            DUE.is("some twenty fields: " + inside, fields <= 20, true);
            for (Method m : inside.getDeclaredMethods()) {
                DUE.is("seven parameters: " + m, m.getParameterCount() <= 7, true);
            }
        }
    }

    private static void methodsAreShort(String code) {
        Matcher m = Pattern.compile("(?m)^( {4}| {8})(?=\\w)[\\w\\[\\] ]+\\([^;{]*\\) \\{\n(.*?)^\\1\\}", Pattern.DOTALL).matcher(code);
        int n = 0;
        while (m.find()) {
            n++;
            DUE.is("sixty lines at most: " + m.group().lines().findFirst().get(), m.group(2).lines().count() <= 60, true);
        }
        DUE.is("methods looked at: " + n, n > 100, true);
    }

    /** Rule 8: methods of one class that call one another are private. */
    private static void recursionIsPrivate(String code) {
        Map<String, String> bodies = new TreeMap<>();
        Set<String> open = new TreeSet<>();
        Matcher m = Pattern.compile("(?ms)^    private static final class (\\w+)|^( {4}| {8})(?=\\w)([\\w\\[\\] ]*?)(\\w+)\\([^;{]*\\) \\{\n(.*?)^\\2\\}")
                .matcher(code);
        String owner = "";
        while (m.find()) {
            if (m.group(1) != null) {
                owner = m.group(1);
                continue;
            }
            bodies.put(owner + "." + m.group(4), m.group(5));
            if (!m.group(3).contains("private")) {
                open.add(owner + "." + m.group(4));
            }
        }
        int found = 0;
        for (String method : bodies.keySet()) {
            if (called(bodies, method).contains(method)) {
                found++;
                DUE.is("recursion, not private: " + method, open.contains(method), false);
            }
        }
        DUE.is("methods that call themselves or one another, those of CHEAP", found, 3);
    }

    /** All methods of its class that one calls, those that they call, and so on. */
    private static Set<String> called(Map<String, String> bodies, String method) {
        Set<String> all = new TreeSet<>();
        List<String> waiting = new ArrayList<>(List.of(method));
        while (!waiting.isEmpty()) {
            String one = waiting.remove(waiting.size() - 1);
            String owner = one.substring(0, one.indexOf('.') + 1);
            Matcher m = Pattern.compile("(?<![.\\w])(\\w+)\\(").matcher(bodies.get(one));
            while (m.find()) {
                String next = owner + m.group(1);
                if (bodies.containsKey(next) && all.add(next)) {
                    waiting.add(next);
                }
            }
        }
        return all;
    }

    private static Object[] wildArguments(Random r, Method m) {
        int[] edges = {0, 1, 2, 3, 5, 9, 10, 11, 12, 23, 24, 25, 29, 30, 31, 50, 99, 100, 101, 1023, 1024, 2000, -1, -2,
            Integer.MAX_VALUE, Integer.MIN_VALUE};
        Object[] args = new Object[m.getParameterCount()];
        for (int i = 0; i < args.length; i++) {
            boolean truth = m.getParameterTypes()[i] == boolean.class;
            Object number = r.nextInt(9) == 0 ? r.nextInt() : edges[r.nextInt(r.nextBoolean() ? 9 : edges.length)];
            args[i] = truth ? (Object) r.nextBoolean() : number;
        }
        return args;
    }

    /** No call throws, for any arguments in any state. */
    private static void wild() throws ReflectiveOperationException {
        Method[] all = OnlyUpward.class.getDeclaredMethods();
        for (int run = 0; run < 300; run++) {
            Random r = new Random(run);
            OnlyUpward x = new OnlyUpward();
            if (run % 4 != 0) {
                Due.read(x, OracleTest.text(r));
            }
            for (int i = 0; i < 500; i++) {
                Method m = all[r.nextInt(all.length)];
                if (!Modifier.isPublic(m.getModifiers()) || m.getName().equals("read") && r.nextInt(5) != 0) {
                    continue;
                }
                Object[] args = wildArguments(r, m);
                try {
                    m.invoke(x, args);
                } catch (InvocationTargetException thrown) {
                    DUE.is(m.getName() + " throws " + thrown.getCause(), 1, 0);
                }
            }
        }
    }

    /** All calls make nothing but, once an object, the rows of cheap(). */
    private static void made() {
        OnlyUpward x = new OnlyUpward();
        com.sun.management.ThreadMXBean threads =
                (com.sun.management.ThreadMXBean) java.lang.management.ManagementFactory.getThreadMXBean();
        long id = Thread.currentThread().getId();
        dear(x);
        long before = threads.getThreadAllocatedBytes(id);
        for (int i = 0; i < 50; i++) {
            dear(x);
        }
        long bytes = threads.getThreadAllocatedBytes(id) - before;
        DUE.is("calls make next to nothing: " + bytes, bytes < 10000, true);
        before = threads.getThreadAllocatedBytes(id);
        OnlyUpward y = new OnlyUpward();
        bytes = threads.getThreadAllocatedBytes(id) - before;
        DUE.is("an object is small: " + bytes + y.count(0), bytes < 60000, true);
    }

    private static void dear(OnlyUpward x) {
        // place a;person b 1;person c 9;thing t 5;knows b t;must c t 9;
        x.feed(0x706c6163, 0x6520613b, 0x70657273, 0x6f6e2062, 0x20313b20);
        x.feed(0x70657273, 0x6f6e2063, 0x20393b74, 0x68696e67, 0x20742035);
        x.feed(0x3b6b6e6f, 0x77732062, 0x20743b6d, 0x75737420, 0x63207420);
        x.feed(0x393b2020, 0x20202020, 0x20202020, 0x20202020, 0x20202020);
        if (x.read() != 0) {
            DUE.is("the dear text", 1, 0);
        }
        x.say(0, 0, 1, 0);
        x.hold(0);
        x.restore(0);
        x.judge();
        x.rank(24, 0);
        x.soon(1, 0, 1, 0, 0, false);
        x.cheap(1, 0, 1, 0, 0);
        x.cheapAt(1, 0, 1, 0, 0);
        x.rule(0);
        x.can(0);
        x.kept(1, 50, 50, 0);
    }
}
