import java.util.ArrayList;
import java.util.List;
import java.util.Random;

/** Random texts of shores without a fault. */
final class Texts {
    private static final String[] KINDS = {"plain", "hairy", "dog", "small"};

    private Texts() {
    }

    static String any(Random random) {
        return text(random, 1 + random.nextInt(6), 6);
    }

    /** One of which the plain model tries all choices soon. */
    static String small(Random random) {
        return text(random, 1 + random.nextInt(4), 3);
    }

    private static String text(Random random, int bathers, int patches) {
        List<String> lines = new ArrayList<>();
        List<Integer> sizes = new ArrayList<>();
        int left = patches;
        int towels = 1 + random.nextInt(3);
        for (int t = 0; t < towels && left > 0; t++) {
            int size = 1 + random.nextInt(Math.min(4, left));
            int holds = 1 + random.nextInt(random.nextBoolean() ? 99 : 25);
            left -= size;
            sizes.add(size);
            lines.add("towel " + (char) ('t' + t) + " patches " + size + " holds " + holds + " wet "
                + (random.nextBoolean() ? 0 : random.nextInt(holds + 1)));
        }
        boolean alike = random.nextInt(4) == 0;
        for (int b = 0; b < bathers; b++) {
            lines.add("bather " + (char) ('a' + b) + " " + KINDS[random.nextInt(4)] + " wet " + drops(random)
                + " cold " + (alike ? 2 : random.nextInt(10)) + " want " + random.nextInt(25) + " size "
                + (alike ? 3 : 1 + random.nextInt(9)));
        }
        for (int b = 0; b < bathers; b++) {
            if (random.nextInt(3) == 0) {
                lines.add("home " + (char) ('a' + b) + " " + random.nextInt(random.nextBoolean() ? 20 : 241));
            }
        }
        int steps = random.nextInt(13);
        for (int i = 0; i < steps; i++) {
            lines.add(step(random, bathers, sizes));
        }
        seen(random, sizes, lines);
        String text = shore(random) + ";" + String.join(";", lines);
        return text.length() > 900 ? text.substring(0, text.lastIndexOf(';', 900)) : text;
    }

    private static int drops(Random random) {
        return random.nextInt(5) == 0 ? random.nextInt(8) : random.nextInt(100);
    }

    private static String shore(Random random) {
        return "shore share " + (1 + random.nextInt(50)) + " wipe " + random.nextInt(random.nextBoolean() ? 3 : 10)
            + " wring " + random.nextInt(random.nextBoolean() ? 9 : 40) + ", " + random.nextInt(10)
            + " sun " + random.nextInt(51) + " wind " + (random.nextBoolean() ? 0 : random.nextInt(51));
    }

    private static String step(Random random, int bathers, List<Integer> sizes) {
        int t = random.nextInt(sizes.size());
        char bather = (char) ('a' + random.nextInt(bathers));
        char towel = (char) ('t' + t);
        switch (random.nextInt(6)) {
            case 0: return "wrings " + towel;
            case 1: return "hangs " + towel + " " + (1 + random.nextInt(random.nextBoolean() ? 4 : 60));
            case 2: return "shakes " + bather;
            default: return "wipes " + bather + " " + towel + " " + random.nextInt(sizes.get(t));
        }
    }

    private static void seen(Random random, List<Integer> sizes, List<String> lines) {
        for (int t = 0; t < sizes.size(); t++) {
            for (int p = 0; p < sizes.get(t); p++) {
                if (random.nextInt(6) == 0) {
                    lines.add("seen " + (char) ('t' + t) + " " + p + " " + random.nextInt(30));
                }
            }
        }
    }
}
