import java.lang.reflect.InvocationTargetException;
import java.lang.reflect.Method;
import java.util.ArrayList;
import java.util.Comparator;
import java.util.List;
import java.util.NoSuchElementException;
import java.util.Random;

/** All promises: random runs of calls, each answer compared with that of the plain Model. */
public final class ModelTest {
    private static final int RUNS = 1000;
    private static final int TEXTS = 20000;
    private static final long NOBODY = Long.MIN_VALUE;
    private static final List<String> DEAR = List.of("share", "shareAt", "next", "nextAt", "wettest", "wettestAt",
        "coldest", "coldestAt", "look", "lookMost", "fits", "fit", "could", "surely", "summer");

    /** What an object answers beyond so many calls is free. */
    private static final int CALLS = 512;
    /** As many calls as another text and a look at what it answers can take. */
    private static final int CALLS_OF_A_TEXT = 50;

    private static final Due DUE = new Due("ModelTest");
    private static final List<Method> METHODS = methods();

    /** Calls of the object that is tested now. */
    private static int made = 0;

    /** A first argument asks for so many times as many runs, other ones than without. */
    public static void main(String[] args) throws ReflectiveOperationException {
        int from = args.length == 0 ? 0 : 1;
        int to = args.length == 0 ? 1 : 1 + Integer.parseInt(args[0]);
        for (int seed = from * TEXTS; seed < to * TEXTS; seed++) {
            runOfTexts(random(seed), seed);
        }
        for (int seed = from * RUNS; seed < to * RUNS; seed++) {
            runOfCalls(random(-1 - seed), seed);
        }
        DUE.end();
    }

    /** Seeds that are near one another begin with like draws: so they are put far apart. */
    private static Random random(int seed) {
        return new Random(seed * 0x9E3779B97F4A7C15L);
    }

    private static List<Method> methods() {
        List<Method> all = new ArrayList<>();
        for (Method m : OneTowel.class.getDeclaredMethods()) {
            if (java.lang.reflect.Modifier.isPublic(m.getModifiers())) {
                all.add(m);
            }
        }
        all.sort(Comparator.comparing(Method::getName));
        return all;
    }

    private static Method method(String name) {
        for (Method m : METHODS) {
            if (m.getName().equals(name)) {
                return m;
            }
        }
        throw new IllegalArgumentException(name);
    }

    /** Calls both, and compares the answers and what is told of trouble. */
    private static void both(OneTowel x, Model model, String run, String name, int... args)
            throws ReflectiveOperationException {
        long due;
        try {
            due = model.call(name, args);
        } catch (NoSuchElementException e) {
            due = NOBODY;
        }
        String call = run + " " + name + java.util.Arrays.toString(args);
        DUE.is(call, answer(x, name, args), due);
        DUE.is(call + " trouble()", x.trouble(), model.call("trouble"));
        DUE.is(call + " where()", x.where(), model.call("where"));
        made += 3;
    }

    private static long answer(OneTowel x, String name, int... args) throws ReflectiveOperationException {
        Object[] boxed = new Object[args.length];
        for (int i = 0; i < args.length; i++) {
            boxed[i] = args[i];
        }
        try {
            Object got = method(name).invoke(x, boxed);
            if (got instanceof Boolean) {
                return (Boolean) got ? 1 : 0;
            }
            return (Integer) got;
        } catch (InvocationTargetException e) {
            if (e.getCause() instanceof NoSuchElementException) {
                return NOBODY;
            }
            throw e;
        }
    }

    private static void put(OneTowel x, Model model, String text) {
        Due.put(x, text);
        StringBuilder full = new StringBuilder(text);
        while (full.length() % 20 != 0) {
            full.append(' ');
        }
        for (int at = 0; at < full.length(); at += 20) {
            int[] numbers = new int[5];
            for (int i = 0; i < 20; i++) {
                numbers[i / 4] = numbers[i / 4] << 8 | full.charAt(at + i) & 255;
            }
            model.call("feed", numbers);
        }
    }

    // ---- texts

    private static void runOfTexts(Random random, int seed) throws ReflectiveOperationException {
        OneTowel x = new OneTowel();
        Model model = new Model();
        String text = spoil(Texts.any(random), random);
        if (text.length() > 900) {
            text = text.substring(0, 900);
        }
        put(x, model, text);
        String run = "text " + seed + " \"" + text + "\"";
        both(x, model, run, "shore", text.length());
        both(x, model, run, "fault");
        for (int what = -1; what < 15; what++) {
            both(x, model, run, "size", what);
        }
    }

    private static String spoil(String text, Random random) {
        StringBuilder spoilt = new StringBuilder(text);
        int times = random.nextInt(3);
        for (int i = 0; i < times && spoilt.length() > 0; i++) {
            int at = random.nextInt(spoilt.length());
            switch (random.nextInt(7)) {
                case 0:
                    spoilt.deleteCharAt(at);
                    break;
                case 1:
                    spoilt.insert(at, " ;,09aztb".charAt(random.nextInt(9)));
                    break;
                case 2:
                    spoilt.setCharAt(at, (char) random.nextInt(256));
                    break;
                case 3:
                    spoilt.setLength(at);
                    break;
                case 4:
                    swapTokens(spoilt, random);
                    break;
                case 5:
                    swapTokens(spoilt, random);
                    swapTokens(spoilt, random);
                    break;
                default:
                    repeatLine(spoilt, random);
                    break;
            }
        }
        return spoilt.toString();
    }

    /** Puts one token of the text at the place of another. */
    private static void swapTokens(StringBuilder text, Random random) {
        String[] tokens = text.toString().split("(?<=[ ;,])|(?=[ ;,])");
        tokens[random.nextInt(tokens.length)] = tokens[random.nextInt(tokens.length)];
        text.setLength(0);
        text.append(String.join("", tokens));
    }

    private static void repeatLine(StringBuilder text, Random random) {
        String[] lines = text.toString().split(";", -1);
        String line = lines[random.nextInt(lines.length)];
        int times = 1 + random.nextInt(random.nextBoolean() ? 2 : 9);
        for (int i = 0; i < times; i++) {
            text.append(';').append(line);
        }
    }

    // ---- calls

    private static void runOfCalls(Random random, int seed) throws ReflectiveOperationException {
        OneTowel x = new OneTowel();
        Model model = new Model();
        boolean small = random.nextInt(4) != 0;
        int dearLeft = small ? 1000 : 4;
        String run = "run " + seed;
        made = 0;
        for (int i = 0; i < 150 && made <= CALLS - CALLS_OF_A_TEXT; i++) {
            if (random.nextInt(100) == 0 || i == 3) {
                String text = withSeen(small ? Texts.small(random) : Texts.any(random), random);
                put(x, model, text);
                made += (text.length() + 19) / 20;
                both(x, model, run, "shore", text.length());
                run = "run " + seed + " \"" + text + "\"";
                continue;
            }
            Method m = METHODS.get(random.nextInt(METHODS.size()));
            String name = m.getName();
            if (random.nextInt(6) == 0) {
                name = List.of("wipe", "wring", "hang", "shake", "waits", "undo", "back")
                    .get(random.nextInt(7));
            }
            if (DEAR.contains(name)) {
                dearLeft--;
            }
            if (!DEAR.contains(name) || dearLeft >= 0) {
                both(x, model, run, name, arguments(name, random));
            }
        }
    }

    /** Tells some patches as they are behind a random order, so that some order fits. */
    private static String withSeen(String text, Random random) {
        OneTowel x = new OneTowel();
        Model model = new Model();
        put(x, model, text);
        model.call("shore", text.length());
        if (model.call("size", 10) > 0) {
            return text;
        }
        List<Integer> order = new ArrayList<>();
        for (int b = 0; b < model.call("size", 8); b++) {
            order.add(random.nextInt(b + 1), b);
        }
        int[] patches = model.patchesBehind(order.stream().mapToInt(b -> b).toArray());
        StringBuilder seen = new StringBuilder(text);
        for (int p = 0; p < patches.length; p++) {
            if (random.nextInt(3) == 0 && seen.length() < 880) {
                long t = model.call("towelOf", p);
                seen.append(";seen ").append((char) ('t' + t)).append(' ')
                    .append(p - model.call("towel", (int) t, 2)).append(' ').append(patches[p]);
            }
        }
        return seen.toString();
    }

    private static int[] arguments(String name, Random random) {
        int[] args = new int[method(name).getParameterCount()];
        for (int i = 0; i < args.length; i++) {
            args[i] = random.nextInt(25) == 0 ? wild(random) : random.nextInt(random.nextBoolean() ? 2 : 6);
        }
        int last = args.length - 1;
        if (List.of("hang", "waits").contains(name) && random.nextInt(4) == 0) {
            args[last] = random.nextInt(64);
        }
        if (name.equals("sun")) {
            args[1] = random.nextInt(20);
        }
        if (name.equals("summer") || name.equals("sixth")) {
            args[last] = random.nextInt(30) - 1;
            args[last - 1] = random.nextInt(5) == 0 ? 65535 + random.nextInt(3) : random.nextInt(65537);
        }
        if (name.equals("bather") || name.equals("size")) {
            args[last] = random.nextInt(16) - 1;
        }
        return args;
    }

    private static int wild(Random random) {
        switch (random.nextInt(4)) {
            case 0: return -1;
            case 1: return random.nextInt();
            case 2: return Integer.MIN_VALUE;
            default: return 6 + random.nextInt(100);
        }
    }
}
