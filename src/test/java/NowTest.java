/** Promises 6 to 15: what is now. */
public final class NowTest {
    private static final Due DUE = new Due("NowTest");
    private static final String WINDY = "shore share 50 wipe 1 wring 2, 3 sun 50 wind 10;"
        + "towel t patches 2 holds 20 wet 3;towel s patches 1 holds 5 wet 4;"
        + "bather a plain wet 40 cold 2 want 6 size 3;bather b hairy wet 5 cold 3 want 2 size 5;"
        + "bather c dog wet 9 cold 0 want 9 size 2;bather d small wet 12 cold 4 want 3 size 1;home d 7";
    private static final String STILL = "shore share 50 wipe 0 wring 0, 0 sun 0 wind 0;"
        + "towel t patches 1 holds 9 wet 0;towel s patches 1 holds 9 wet 9;";

    public static void main(String[] args) {
        bathers();
        towels();
        passing();
        hairyOnes();
        best();
        behindAWipe();
        wrongOnes();
        DUE.end();
    }

    private static void bathers() {
        OneTowel x = Due.told(WINDY);
        int[][] due = {{0, 40, 0, 6, 3, -2, 0, 0}, {1, 5, 0, 2, 5, -2, 0, 0}, {2, 9, 0, 9, 2, -2, 1, 0},
            {3, 12, 0, 3, 1, 7, 0, 0}};
        for (int b = 0; b < due.length; b++) {
            for (int what = 0; what < 8; what++) {
                DUE.good(x, "bather(" + b + ", " + what + ")", x.bather(b, what), due[b][what]);
            }
            DUE.refused(x, "bather(" + b + ", 8)", x.bather(b, 8), 1);
            DUE.refused(x, "bather(" + b + ", -1)", x.bather(b, -1), 1);
        }
        DUE.refused(x, "bather(4, 0)", x.bather(4, 0), 1);
        DUE.refused(x, "bather(-1, 0)", x.bather(-1, 0), 1);
        DUE.refused(x, "bather(most, most)", x.bather(Integer.MAX_VALUE, Integer.MAX_VALUE), 1);
        DUE.refused(x, "bather(least, least)", x.bather(Integer.MIN_VALUE, Integer.MIN_VALUE), 1);
        DUE.granted(x, "shake(2)", x.shake(2));
        DUE.good(x, "bather(2, 7) shaken", x.bather(2, 7), 1);
        DUE.good(x, "bather(3, 7) not shaken", x.bather(3, 7), 0);
        DUE.good(x, "a home at minute 0", Due.told(Due.SHORE + ";towel t patches 1 holds 1 wet 0;"
            + "bather b plain wet 0 cold 0 want 0 size 1;home b 0").bather(0, 5), 0);
    }

    private static void towels() {
        OneTowel x = Due.told(WINDY);
        int[][] due = {{2, 20, 0}, {1, 5, 2}};
        for (int t = 0; t < 2; t++) {
            for (int what = 0; what < 3; what++) {
                DUE.good(x, "towel(" + t + ", " + what + ")", x.towel(t, what), due[t][what]);
            }
            DUE.refused(x, "towel(" + t + ", 3)", x.towel(t, 3), 1);
            DUE.refused(x, "towel(" + t + ", -1)", x.towel(t, -1), 1);
        }
        DUE.refused(x, "towel(2, 0)", x.towel(2, 0), 1);
        DUE.refused(x, "towel(-1, 0)", x.towel(-1, 0), 1);
        int[] wet = {3, 3, 4};
        int[] owner = {0, 0, 1};
        for (int p = 0; p < 3; p++) {
            DUE.good(x, "patch(" + p + ")", x.patch(p), wet[p]);
            DUE.good(x, "towelOf(" + p + ")", x.towelOf(p), owner[p]);
        }
        int[] wrong = {-1, 3, 6, Integer.MAX_VALUE, Integer.MIN_VALUE};
        for (int p : wrong) {
            DUE.refused(x, "patch(" + p + ")", x.patch(p), 1);
            DUE.refused(x, "towelOf(" + p + ")", x.towelOf(p), 1);
            DUE.refused(x, "passes(0, " + p + ")", x.passes(0, p), 1);
        }
        OneTowel y = Due.told(Due.SHORE + ";towel t patches 1 holds 7 wet 1;towel u patches 3 holds 8 wet 2;"
            + "towel v patches 2 holds 9 wet 3;bather b plain wet 0 cold 0 want 0 size 1");
        int[] first = {0, 1, 4};
        for (int t = 0; t < 3; t++) {
            DUE.good(y, "towel(" + t + ", 2) of three", y.towel(t, 2), first[t]);
        }
        int[] owners = {0, 1, 1, 1, 2, 2};
        for (int p = 0; p < 6; p++) {
            DUE.good(y, "towelOf(" + p + ") of three", y.towelOf(p), owners[p]);
            DUE.good(y, "patch(" + p + ") of three", y.patch(p), owners[p] + 1);
        }
    }

    private static void passing() {
        OneTowel x = Due.told(WINDY);
        // half of 37, but 17 is all that the patch takes; half of 36, but 1 is
        int[][] due = {{17, 17, 1}, {1, 1, 0}, {3, 3, 1}, {4, 4, 1}};
        for (int b = 0; b < due.length; b++) {
            for (int p = 0; p < 3; p++) {
                DUE.good(x, "passes(" + b + ", " + p + ")", x.passes(b, p), due[b][p]);
            }
        }
        OneTowel y = Due.told("shore share 33 wipe 0 wring 0, 0 sun 0 wind 0;towel t patches 1 holds 99 wet 10;"
            + "bather a plain wet 14 cold 0 want 0 size 1;bather b plain wet 13 cold 0 want 0 size 1;"
            + "bather c plain wet 10 cold 0 want 0 size 1;bather d plain wet 9 cold 0 want 0 size 1;"
            + "bather e plain wet 99 cold 0 want 0 size 1");
        int[] third = {1, 0, 0, 0, 29};
        for (int b = 0; b < third.length; b++) {
            DUE.good(y, "passes(" + b + ", 0) of a third", y.passes(b, 0), third[b]);
        }
    }

    private static void hairyOnes() {
        for (int wet = 0; wet < 10; wet++) {
            OneTowel x = Due.told("shore share 50 wipe 0 wring 0, 0 sun 0 wind 0;towel t patches 1 holds 99 wet 0;"
                + "bather h hairy wet " + wet + " cold 0 want 0 size 1;"
                + "bather p plain wet " + wet + " cold 0 want 0 size 1");
            DUE.good(x, "hairy passes of " + wet, x.passes(0, 0), Math.min(wet / 2, Math.max(0, wet - 3)));
            DUE.good(x, "plain passes of " + wet, x.passes(1, 0), wet / 2);
        }
    }

    private static void best() {
        OneTowel x = Due.told(WINDY);
        DUE.good(x, "best(0)", x.best(0), 0);
        DUE.good(x, "best(1)", x.best(1), 0);
        OneTowel y = Due.told("shore share 50 wipe 0 wring 0, 0 sun 0 wind 0;towel t patches 1 holds 3 wet 0;"
            + "towel s patches 2 holds 9 wet 1;bather a plain wet 9 cold 0 want 0 size 1;"
            + "bather b plain wet 1 cold 0 want 0 size 1;bather c plain wet 6 cold 0 want 0 size 1");
        DUE.good(y, "best(0) by what it takes", y.best(0), 1);
        DUE.good(y, "best(1) of none", y.best(1), 0);
        DUE.good(y, "best(2) by the less wet", y.best(2), 0);
        DUE.refused(y, "best(3)", y.best(3), 1);
        DUE.refused(y, "best(-1)", y.best(-1), 1);
        OneTowel z = Due.told(STILL + "bather a plain wet 9 cold 0 want 0 size 1");
        DUE.good(z, "best(0) of a dry and a full one", z.best(0), 0);
        DUE.good(z, "passes(0, 1) of a full one", z.passes(0, 1), 0);
    }

    private static void behindAWipe() {
        OneTowel x = Due.told(WINDY);
        DUE.good(x, "water() at first", x.water(), 76);
        DUE.good(x, "lost() at first", x.lost(), 0);
        DUE.good(x, "clock() at first", x.clock(), 0);
        DUE.good(x, "wetOnes() at first", x.wetOnes(), 3);
        DUE.good(x, "wipe(0, 0)", x.wipe(0, 0), 17);
        // 40 - 17 = 23, of which the wind takes 2; of 12 it takes 1; of 5 and 9 nothing
        int[] wet = {21, 5, 9, 11};
        int[] cold = {2, 3, 0, 8};
        for (int b = 0; b < 4; b++) {
            DUE.good(x, "bather(" + b + ", 1) then", x.bather(b, 1), wet[b]);
            DUE.good(x, "bather(" + b + ", 2) then", x.bather(b, 2), cold[b]);
        }
        DUE.good(x, "patch(0) then", x.patch(0), 20);
        DUE.good(x, "water() then", x.water(), 73);
        DUE.good(x, "lost() then", x.lost(), 3);
        DUE.good(x, "clock() then", x.clock(), 1);
        DUE.good(x, "wetOnes() then", x.wetOnes(), 3);
        DUE.good(x, "passes(0, 0) then", x.passes(0, 0), 0);
        DUE.good(x, "passes(0, 1) then", x.passes(0, 1), 9);
        DUE.good(x, "best(0) then", x.best(0), 1);
        DUE.good(x, "waits(60)", x.waits(60), 61);
        // by a tenth, downwards, all stop at nine
        DUE.good(x, "bather(0, 1) at last", x.bather(0, 1), 9);
        DUE.good(x, "bather(3, 1) at last", x.bather(3, 1), 9);
        DUE.good(x, "water() at last", x.water(), 9 + 5 + 9 + 9 + 27);
        DUE.good(x, "lost() at last", x.lost(), 76 - 59);
        DUE.good(x, "bather(0, 2) at last", x.bather(0, 2), 122);
        DUE.good(x, "bather(3, 2) at last", x.bather(3, 2), 488);
    }

    private static void wrongOnes() {
        OneTowel x = Due.told(WINDY);
        DUE.refused(x, "passes(4, 0)", x.passes(4, 0), 1);
        DUE.refused(x, "passes(-1, 0)", x.passes(-1, 0), 1);
        DUE.refused(x, "passes(4, 3)", x.passes(4, 3), 1);
        OneTowel none = new OneTowel();
        DUE.refused(none, "water() without", none.water(), 1);
        DUE.refused(none, "clock() without", none.clock(), 1);
        DUE.refused(none, "wetOnes() without", none.wetOnes(), 1);
        DUE.is("lost() without", none.lost(), -100000);
        OneTowel fresh = new OneTowel();
        DUE.is("lost() first of all", fresh.lost(), -100000);
        DUE.is("trouble() of lost() without", fresh.trouble(), 1);
        DUE.refused(none, "towelOf(0) without", none.towelOf(0), 1);
        DUE.refused(none, "passes(0, 0) without", none.passes(0, 0), 1);
        DUE.refused(none, "best(0) without", none.best(0), 1);
        OneTowel dog = Due.told(STILL + "bather a dog wet 1 cold 0 want 0 size 1;"
            + "bather b plain wet 1 cold 0 want 0 size 1;bather c plain wet 1 cold 0 want 0 size 1");
        DUE.granted(dog, "shake(0)", dog.shake(0));
        DUE.good(dog, "lost() less than 0", dog.lost(), -1);
    }
}
