/** Promises 46 and 47: summers. */
public final class SummerTest {
    private static final Due DUE = new Due("SummerTest");
    private static final String CALM = "shore share 50 wipe 1 wring 0, 0 sun 0 wind 0;";
    private static final String ONE = CALM + "towel t patches 1 holds 99 wet 0;"
        + "bather a plain wet 1 cold 0 want 0 size 1";
    private static final String TWO = CALM + "towel t patches 1 holds 99 wet 0;"
        + "bather a plain wet 1 cold 1 want 0 size 5;bather b small wet 2 cold 1 want 0 size 4";

    public static void main(String[] args) {
        oneBather();
        twoBathers();
        rulesOfMany();
        windAndTold();
        actsDoNotCount();
        wrongOnes();
        DUE.end();
    }

    /** By seed 0 the draws make 75, 81, 42, 14 drops; half of them stay, upwards. */
    private static void oneBather() {
        OneTowel x = Due.told(ONE);
        int[] due = {0, 38, 79, 100, 107};
        for (int n = 0; n < due.length; n++) {
            for (int rule = 0; rule < 5; rule++) {
                DUE.good(x, "summer(" + rule + ", 0, " + n + ")", x.summer(rule, 0, n), due[n]);
                DUE.good(x, "sixth(0, " + rule + ", 0, " + n + ")", x.sixth(0, rule, 0, n), n);
            }
        }
        // this seed becomes itself: 98 drops each day
        DUE.good(x, "summer(0, 65536, 60)", x.summer(0, 65536, 60), 2940);
        DUE.good(x, "summer(0, 74, 3)", x.summer(0, 74, 3), 69);
        DUE.good(x, "sixth(0, 0, 65536, 60)", x.sixth(0, 0, 65536, 60), 60);
    }

    /** Days of 75 and 81, then of 42 and 14. */
    private static void twoBathers() {
        OneTowel x = Due.told(TWO);
        // ab: 75 leaves 38, the patch has 37, of 44 half: 59; 42 leaves 21, the patch has 21, 14 stay
        DUE.good(x, "summer(0, 0, 1)", x.summer(0, 0, 1), 59);
        DUE.good(x, "summer(0, 0, 2)", x.summer(0, 0, 2), 80);
        // ba: 81 leaves 41, the patch has 40, of 35 half: 58; 14 leaves 7, of 35 half: 25
        DUE.good(x, "summer(1, 0, 1)", x.summer(1, 0, 1), 58);
        DUE.good(x, "summer(1, 0, 2)", x.summer(1, 0, 2), 83);
        DUE.good(x, "summer(2, 0, 2)", x.summer(2, 0, 2), 80);
        // ba, then ab
        DUE.good(x, "summer(3, 0, 2)", x.summer(3, 0, 2), 79);
        DUE.good(x, "summer(4, 0, 2)", x.summer(4, 0, 2), 83);
        int[][] lastOfOne = {{0, 1}, {1, 0}, {0, 1}, {1, 0}, {1, 0}};
        int[][] lastOfTwo = {{0, 2}, {2, 0}, {0, 2}, {1, 1}, {2, 0}};
        for (int rule = 0; rule < 5; rule++) {
            for (int b = 0; b < 2; b++) {
                String call = "sixth(" + b + ", " + rule + ", 0, ";
                DUE.good(x, call + "0)", x.sixth(b, rule, 0, 0), 0);
                DUE.good(x, call + "1)", x.sixth(b, rule, 0, 1), lastOfOne[rule][b]);
                DUE.good(x, call + "2)", x.sixth(b, rule, 0, 2), lastOfTwo[rule][b]);
            }
        }
    }

    private static void rulesOfMany() {
        StringBuilder text = new StringBuilder(CALM).append("towel t patches 2 holds 99 wet 7");
        for (int b = 0; b < 6; b++) {
            text.append(";bather ").append((char) ('a' + b)).append(" plain wet 9 cold 0 want 0 size 1");
        }
        OneTowel x = Due.told(text.toString());
        int[] seeds = {0, 1, 7, 4711, 65535, 65536};
        for (int seed : seeds) {
            int[] last = new int[6];
            int drawn = seed;
            for (int day = 0; day < 60; day++) {
                int least = 0;
                int[] drops = new int[6];
                for (int b = 0; b < 6; b++) {
                    drawn = (75 * drawn + 74) % 65537;
                    drops[b] = drawn % 99 + 1;
                    least = drops[b] <= drops[least] ? b : least;
                }
                last[least]++;
            }
            int all = 0;
            for (int b = 0; b < 6; b++) {
                DUE.good(x, "sixth(" + b + ", 3, " + seed + ", 60)", x.sixth(b, 3, seed, 60), last[b]);
                DUE.good(x, "sixth(" + b + ", 4, " + seed + ", 60)", x.sixth(b, 4, seed, 60), b == 5 ? 60 : 0);
                all += x.sixth(b, 3, seed, 60);
            }
            DUE.is("all last ones of " + seed, all, 60);
        }
    }

    private static void windAndTold() {
        OneTowel windy = Due.told(ONE.replace("wind 0", "wind 50"));
        // 38, of which the wind takes 19
        DUE.good(windy, "summer(0, 0, 1) in the wind", windy.summer(0, 0, 1), 19);
        OneTowel wet = Due.told(ONE.replace("wet 0", "wet 15"));
        // of 60 half; of 66 half
        DUE.good(wet, "summer(0, 0, 1) of a wet patch", wet.summer(0, 0, 1), 45);
        DUE.good(wet, "summer(0, 0, 2) of a patch as told", wet.summer(0, 0, 2), 93);
        OneTowel hairy = Due.told(ONE.replace("plain", "hairy").replace("holds 99", "holds 9"));
        DUE.good(hairy, "summer(0, 0, 1) of a small patch", hairy.summer(0, 0, 1), 66);
    }

    private static void actsDoNotCount() {
        OneTowel x = Due.told(TWO.replace("wet 1 ", "wet 90 "));
        DUE.good(x, "wipe(0, 0)", x.wipe(0, 0), 45);
        DUE.granted(x, "shake(1)", x.shake(1));
        DUE.good(x, "summer(0, 0, 1) behind acts", x.summer(0, 0, 1), 59);
        DUE.good(x, "sixth(0, 3, 0, 2) behind acts", x.sixth(0, 3, 0, 2), 1);
        DUE.good(x, "the drops stay", x.bather(0, 1), 45);
        DUE.good(x, "the patch stays", x.patch(0), 45);
        DUE.good(x, "the minute stays", x.clock(), 1);
        DUE.good(x, "the shake stays", x.bather(1, 7), 1);
    }

    private static void wrongOnes() {
        OneTowel x = Due.told(TWO);
        int[] noRules = {-1, 5, Integer.MAX_VALUE, Integer.MIN_VALUE};
        for (int rule : noRules) {
            DUE.refused(x, "summer(" + rule + ", 0, 1)", x.summer(rule, 0, 1), 1);
            DUE.refused(x, "summer(" + rule + ", -1, 1)", x.summer(rule, -1, 1), 1);
            DUE.refused(x, "sixth(0, " + rule + ", 0, 1)", x.sixth(0, rule, 0, 1), 1);
        }
        int[] noSeeds = {-1, 65537, Integer.MAX_VALUE, Integer.MIN_VALUE};
        for (int seed : noSeeds) {
            DUE.refused(x, "summer(0, " + seed + ", 1)", x.summer(0, seed, 1), 2);
            DUE.refused(x, "sixth(0, 0, " + seed + ", 1)", x.sixth(0, 0, seed, 1), 2);
        }
        int[] noDays = {-1, 61, Integer.MAX_VALUE, Integer.MIN_VALUE};
        for (int n : noDays) {
            DUE.refused(x, "summer(0, 0, " + n + ")", x.summer(0, 0, n), 2);
            DUE.refused(x, "sixth(0, 0, 0, " + n + ")", x.sixth(0, 0, 0, n), 2);
        }
        int[] nobody = {-1, 2, Integer.MAX_VALUE, Integer.MIN_VALUE};
        for (int b : nobody) {
            DUE.refused(x, "sixth(" + b + ", 0, 0, 1)", x.sixth(b, 0, 0, 1), 1);
            DUE.refused(x, "sixth(" + b + ", 0, -1, 1)", x.sixth(b, 0, -1, 1), 1);
        }
        OneTowel none = new OneTowel();
        DUE.refused(none, "summer(0, 0, 1) without", none.summer(0, 0, 1), 1);
        DUE.refused(none, "summer(0, -1, 1) without", none.summer(0, -1, 1), 1);
        DUE.refused(none, "sixth(0, 0, 0, 1) without", none.sixth(0, 0, 0, 1), 1);
    }
}
