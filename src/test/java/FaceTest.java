import java.io.IOException;
import java.lang.management.ManagementFactory;
import java.lang.reflect.Constructor;
import java.lang.reflect.Field;
import java.lang.reflect.Method;
import java.lang.reflect.Modifier;
import java.nio.file.Files;
import java.nio.file.Path;
import java.util.Arrays;
import java.util.List;
import java.util.NoSuchElementException;
import java.util.Set;
import java.util.TreeSet;
import java.util.regex.Matcher;
import java.util.regex.Pattern;

/** The public face, the language that the class keeps to, and what an object and its calls make. */
public final class FaceTest {
    private static final Due DUE = new Due("FaceTest");
    private static final String[] FACE = {"int feed(int,int,int,int,int)", "int shore(int)", "int fault()",
        "int where()", "int bather(int,int)", "int towel(int,int)", "int patch(int)", "int towelOf(int)",
        "int passes(int,int)", "int best(int)", "int water()", "int lost()", "int clock()", "int wetOnes()",
        "int step(int,int)", "int planWet(int,int)", "int planPatch(int,int)", "int planCold(int,int)",
        "int planTime(int)", "int judge()", "int dryBy(int)", "int late()", "int wettest()", "int wettestAt(int)",
        "int coldest()", "int coldestAt(int)", "int rule(int,int)", "int bestRule(int)", "int ruleAt(int,int)",
        "int share()", "int shareAt(int)", "int wringing()", "int wrung()", "int next(int)", "int nextAt(int,int)",
        "int times(int)", "int sun(int,int)", "int wind(int)", "int fits()", "int fit(int,int)", "int could(int)",
        "int surely(int)", "int look()", "int lookMost()", "int summer(int,int,int)", "int sixth(int,int,int,int)",
        "int wipe(int,int)", "int wring(int)", "int hang(int,int)", "boolean shake(int)", "int waits(int)",
        "boolean undo()", "int mark()", "boolean back(int)", "int led(int)", "int size(int)", "int trouble()"};
    private static final String[] NOT_IN_THE_LANGUAGE = {"->", "::", "finally", "synchronized", "assert ", "Exact",
        "RuntimeException e", "catch (", "System.out", "System.current", "Random", "Thread", "import java.util.List",
        "MAX_VALUE", "MIN_VALUE", " instanceof ", "String[]", "protected ", "long ", "double ", "float "};

    public static void main(String[] args) throws IOException {
        face();
        nothingElseIsOpen();
        source();
        objectsMade();
        DUE.end();
    }

    private static void face() {
        Set<String> due = new TreeSet<>(Arrays.asList(FACE));
        Set<String> got = new TreeSet<>();
        for (Method m : OneTowel.class.getDeclaredMethods()) {
            if (Modifier.isPublic(m.getModifiers())) {
                List<String> types = Arrays.stream(m.getParameterTypes()).map(Class::getName).toList();
                got.add(m.getReturnType() + " " + m.getName() + "(" + String.join(",", types) + ")");
                boolean throwing = m.getName().equals("led");
                DUE.is("exceptions told by " + m.getName(), m.getExceptionTypes().length, throwing ? 1 : 0);
                if (throwing) {
                    DUE.is("led's exception", m.getExceptionTypes()[0] == NoSuchElementException.class, true);
                }
            }
        }
        DUE.is("the face is " + due + ", found " + got, got.equals(due), true);
        int kept = OneTowel.class.getModifiers();
        DUE.is("public and final", Modifier.isPublic(kept) && Modifier.isFinal(kept), true);
        DUE.is("no package", OneTowel.class.getPackageName().isEmpty(), true);
        DUE.is("one constructor", OneTowel.class.getDeclaredConstructors().length, 1);
        Constructor<?> made = OneTowel.class.getDeclaredConstructors()[0];
        DUE.is("a public one", Modifier.isPublic(made.getModifiers()), true);
        DUE.is("of nothing", made.getParameterCount(), 0);
    }

    private static void nothingElseIsOpen() {
        Set<String> names = new TreeSet<>();
        for (String told : FACE) {
            names.add(told.substring(told.indexOf(' ') + 1, told.indexOf('(')));
        }
        for (Field f : OneTowel.class.getDeclaredFields()) {
            boolean isPrivate = Modifier.isPrivate(f.getModifiers());
            DUE.is("field " + f.getName(), isPrivate, !f.getName().equals("NONE"));
        }
        for (Method m : OneTowel.class.getDeclaredMethods()) {
            if (!Modifier.isPublic(m.getModifiers())) {
                DUE.is("private " + m.getName(), Modifier.isPrivate(m.getModifiers()), true);
                DUE.is("name of " + m.getName(), names.contains(m.getName()), false);
            }
        }
        Class<?>[] inside = OneTowel.class.getDeclaredClasses();
        DUE.is("at most twelve classes", inside.length < 12, true);
        for (Class<?> c : inside) {
            int kept = c.getModifiers();
            DUE.is("class " + c.getName(), Modifier.isPrivate(kept) && Modifier.isStatic(kept), true);
            int own = 0;
            for (Field f : c.getDeclaredFields()) {
                own += Modifier.isStatic(f.getModifiers()) ? 0 : 1;
                DUE.is("static " + f.getName(), Modifier.isStatic(f.getModifiers())
                    && !Modifier.isFinal(f.getModifiers()), false);
            }
            DUE.is("fields of " + c.getName() + ": " + own, own <= 20, true);
            for (Method m : c.getDeclaredMethods()) {
                DUE.is("name of " + c.getName() + "." + m.getName(), names.contains(m.getName()), false);
                DUE.is("parameters of " + m.getName(), m.getParameterCount() <= 7, true);
            }
        }
    }

    private static void source() throws IOException {
        List<String> lines = Files.readAllLines(Path.of("src/main/java/OneTowel.java"));
        String text = String.join("\n", lines);
        for (String word : NOT_IN_THE_LANGUAGE) {
            DUE.is("\"" + word + "\" in the source", text.contains(word), false);
        }
        Matcher throwing = Pattern.compile("throw new (\\w+)").matcher(text);
        while (throwing.find()) {
            DUE.is("throws " + throwing.group(1), throwing.group(1).equals("NoSuchElementException"), true);
        }
        String library = "\\b(Math|Integer|Long|System|Arrays|String|StringBuilder)\\.(\\w+)";
        Matcher call = Pattern.compile(library).matcher(text);
        while (call.find()) {
            boolean allowed = Set.of("Math.min", "Math.max", "System.arraycopy").contains(call.group());
            DUE.is("calls " + call.group(), allowed, true);
        }
        for (String line : lines) {
            DUE.is("ASCII: " + line, line.chars().allMatch(c -> c < 127), true);
        }
    }

    /** No call makes any object; those of a new one are few. */
    private static void objectsMade() {
        var threads = (com.sun.management.ThreadMXBean) ManagementFactory.getThreadMXBean();
        long me = Thread.currentThread().getId();
        OneTowel warm = dearOne();
        use(warm, 2);
        long before = threads.getThreadAllocatedBytes(me);
        OneTowel x = new OneTowel();
        long made = threads.getThreadAllocatedBytes(me) - before;
        DUE.is("bytes of a new object: " + made, made > 0 && made < 60000, true);
        OneTowel dear = dearOne();
        before = threads.getThreadAllocatedBytes(me);
        use(dear, 10);
        use(x, 1);
        made = threads.getThreadAllocatedBytes(me) - before;
        DUE.is("bytes of calls: " + made, made < 1000, true);
    }

    private static OneTowel dearOne() {
        StringBuilder text = new StringBuilder("shore share 50 wipe 9 wring 2, 9 sun 50 wind 1;"
            + "towel t patches 3 holds 90 wet 0;towel u patches 3 holds 90 wet 0");
        for (int b = 0; b < 6; b++) {
            text.append(";bather ").append((char) ('a' + b)).append(" dog wet 9").append(b).append(" cold 2 want ")
                .append(b).append(" size 1");
        }
        return Due.told(text.toString());
    }

    private static int use(OneTowel x, int often) {
        int all = 0;
        for (int i = 0; i < often; i++) {
            x.feed(0x73686f72, 0x65207368, 0x61726520, 0x35302077, 0x69706520);
            all += x.shore(20) + x.wettest() + x.coldestAt(i % 6) + x.share() + x.wringing();
            all += x.next(3) + x.nextAt(2, 1);
            all += x.fits() + x.fit(i, 1) + x.look() + x.could(1) + x.summer(3, i, 60) + x.sixth(0, 3, i, 60);
            all += x.times(1) + x.sun(0, 1) + x.wind(1) + x.rule(3, 1) + x.bestRule(0) + x.ruleAt(4, 1);
            all += x.judge() + x.late() + x.dryBy(1) + x.water() + x.best(1) + x.bather(1, 1) + x.size(1);
            all += x.wipe(i % 6, i % 3) + x.wring(0) + x.hang(1, 9) + x.waits(2) + (x.shake(i % 6) ? 1 : 0);
            all += (x.undo() ? 1 : 0) + x.mark() + (x.back(0) ? 1 : 0);
        }
        return all;
    }
}
