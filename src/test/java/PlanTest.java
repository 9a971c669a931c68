/** Promises 16 to 23: the plan. */
public final class PlanTest {
    private static final Due DUE = new Due("PlanTest");
    private static final String PLAN = "shore share 50 wipe 2 wring 1, 4 sun 25 wind 0;"
        + "towel t patches 1 holds 30 wet 8;towel s patches 2 holds 9 wet 0;"
        + "bather a plain wet 20 cold 1 want 10 size 1;bather b dog wet 10 cold 2 want 2 size 1;"
        + "bather c hairy wet 99 cold 3 want 99 size 1;home a 2;home b 5;home c 0;"
        + "wipes a t 0;shakes b;shakes b;hangs t 2;wrings t;shakes a;wipes b s 1";

    public static void main(String[] args) {
        steps();
        behindSteps();
        windAndSmallOnes();
        wrongOnes();
        ofNoUse();
        aDogWithNothing();
        dryBy();
        late();
        actsDoNotCount();
        DUE.end();
    }

    private static void steps() {
        OneTowel x = Due.told(PLAN);
        int[][] due = {{0, 0, 0, -2}, {3, 1, -2, -2}, {3, 1, -2, -2}, {2, -2, 0, 2}, {1, -2, 0, -2}, {3, 0, -2, -2},
            {0, 1, 2, -2}};
        for (int i = 0; i < due.length; i++) {
            for (int what = 0; what < 4; what++) {
                DUE.good(x, "step(" + i + ", " + what + ")", x.step(i, what), due[i][what]);
            }
            DUE.refused(x, "step(" + i + ", 4)", x.step(i, 4), 1);
            DUE.refused(x, "step(" + i + ", -1)", x.step(i, -1), 1);
        }
        DUE.refused(x, "step(7, 0)", x.step(7, 0), 1);
        DUE.refused(x, "step(-1, 0)", x.step(-1, 0), 1);
        DUE.refused(x, "step(most, 0)", x.step(Integer.MAX_VALUE, 0), 1);
    }

    private static void behindSteps() {
        OneTowel x = Due.told(PLAN);
        int[][] wet = {{20, 10, 99}, {14, 10, 99}, {15, 5, 99}, {15, 5, 99}, {15, 5, 99}, {15, 5, 99}, {14, 5, 99},
            {14, 3, 99}};
        int[][] cold = {{0, 0, 0}, {2, 4, 0}, {2, 4, 0}, {2, 4, 0}, {4, 8, 0}, {8, 16, 0}, {8, 16, 0}, {10, 20, 0}};
        // of 14 the sun takes 3, then of 11 it takes 2
        int[][] patch = {{8, 0, 0}, {14, 0, 0}, {14, 0, 0}, {14, 0, 0}, {9, 0, 0}, {1, 0, 0}, {1, 0, 0}, {1, 0, 2}};
        int[] time = {0, 2, 2, 2, 4, 8, 8, 10};
        for (int k = 0; k < time.length; k++) {
            for (int i = 0; i < 3; i++) {
                DUE.good(x, "planWet(" + k + ", " + i + ")", x.planWet(k, i), wet[k][i]);
                DUE.good(x, "planCold(" + k + ", " + i + ")", x.planCold(k, i), cold[k][i]);
                DUE.good(x, "planPatch(" + k + ", " + i + ")", x.planPatch(k, i), patch[k][i]);
            }
            DUE.good(x, "planTime(" + k + ")", x.planTime(k), time[k]);
        }
        DUE.good(x, "judge()", x.judge(), 2);
    }

    private static void windAndSmallOnes() {
        OneTowel x = Due.told("shore share 50 wipe 1 wring 2, 3 sun 50 wind 20;towel t patches 2 holds 20 wet 9;"
            + "bather a small wet 10 cold 3 want 7 size 1;hangs t 3;wrings t");
        // 10, 8, 7, 6: dry behind the second minute; of 9 the sun takes 4, of 5 it takes 2, of 3 it takes 1
        DUE.good(x, "planWet(1, 0) by wind", x.planWet(1, 0), 6);
        DUE.good(x, "planCold(1, 0) by wind", x.planCold(1, 0), 6);
        DUE.good(x, "planPatch(1, 0)", x.planPatch(1, 0), 2);
        DUE.good(x, "planPatch(1, 1)", x.planPatch(1, 1), 2);
        DUE.good(x, "planTime(1)", x.planTime(1), 3);
        DUE.good(x, "planWet(2, 0) by wind", x.planWet(2, 0), 4);
        DUE.good(x, "planTime(2)", x.planTime(2), 6);
        DUE.good(x, "judge() of a towel with just what is left", x.judge(), 1);
        DUE.good(x, "dryBy(0)", x.dryBy(0), 1);
    }

    private static void wrongOnes() {
        OneTowel x = Due.told(PLAN);
        int[] wrong = {-1, 8, Integer.MAX_VALUE, Integer.MIN_VALUE};
        for (int k : wrong) {
            DUE.refused(x, "planWet(" + k + ", 0)", x.planWet(k, 0), 2);
            DUE.refused(x, "planPatch(" + k + ", 0)", x.planPatch(k, 0), 2);
            DUE.refused(x, "planCold(" + k + ", 0)", x.planCold(k, 0), 2);
            DUE.refused(x, "planTime(" + k + ")", x.planTime(k), 2);
            DUE.refused(x, "planWet(0, " + k + ")", x.planWet(0, k), 1);
            DUE.refused(x, "planPatch(0, " + k + ")", x.planPatch(0, k), 1);
            DUE.refused(x, "planCold(0, " + k + ")", x.planCold(0, k), 1);
            DUE.refused(x, "dryBy(" + k + ")", x.dryBy(k), 1);
        }
        DUE.refused(x, "planWet(8, 3)", x.planWet(8, 3), 1);
        DUE.refused(x, "planPatch(8, 3)", x.planPatch(8, 3), 1);
        DUE.refused(x, "planCold(8, 3)", x.planCold(8, 3), 1);
        OneTowel none = new OneTowel();
        DUE.refused(none, "planWet(0, 0) without", none.planWet(0, 0), 1);
        DUE.refused(none, "planPatch(0, 0) without", none.planPatch(0, 0), 1);
        DUE.refused(none, "planCold(0, 0) without", none.planCold(0, 0), 1);
        DUE.refused(none, "planTime(0) without", none.planTime(0), 1);
        DUE.refused(none, "planTime(-1) without", none.planTime(-1), 1);
        DUE.refused(none, "judge() without", none.judge(), 1);
        DUE.refused(none, "dryBy(0) without", none.dryBy(0), 1);
        DUE.refused(none, "late() without", none.late(), 1);
    }

    private static final String USE = "shore share 50 wipe 1 wring 2, 1 sun 10 wind 0;towel t patches 2 holds 9 wet 2;"
        + "towel u patches 1 holds 3 wet 3;towel v patches 2 holds 9 wet 0;bather a plain wet 3 cold 0 want 0 size 1;"
        + "bather b plain wet 0 cold 0 want 0 size 1;bather c hairy wet 3 cold 0 want 0 size 1;"
        + "bather d dog wet 9 cold 0 want 0 size 1";

    private static void judged(String steps, int due) {
        DUE.is("judge() of " + steps, Due.told(USE + steps).judge(), due);
    }

    private static void ofNoUse() {
        judged("", -2);
        judged(";wipes d t 0;wipes a v 1;wrings u;hangs t 1;shakes a", -2);
        judged(";wipes d t 0;wipes a t 1", 1);
        judged(";wipes c v 0", 0);
        judged(";wipes d u 0", 0);
        judged(";wrings t", 0);
        judged(";wipes d t 1;wrings t", -2);
        judged(";wrings v;wrings t", 0);
        judged(";hangs t 1;hangs v 1", 1);
        judged(";wipes d v 1;hangs v 1", -2);
        judged(";shakes b", 0);
        judged(";shakes d;shakes b", -2);
        judged(";shakes a;shakes c;shakes d;shakes a", 3);
        OneTowel x = Due.told(USE + ";wipes a t 0;wrings v;hangs v 7;shakes b");
        DUE.good(x, "minutes of a wipe of no use", x.planTime(1), 1);
        DUE.good(x, "minutes of a wring of no use", x.planTime(2), 2);
        DUE.good(x, "minutes of a hang of no use", x.planTime(3), 9);
        DUE.good(x, "no minutes of a shake", x.planTime(4), 9);
    }

    private static void aDogWithNothing() {
        OneTowel x = Due.told(Due.SHORE + ";towel t patches 1 holds 9 wet 2;bather a plain wet 98 cold 0 want 0 size 1;"
            + "bather b dog wet 0 cold 0 want 0 size 1;bather c dog wet 1 cold 0 want 0 size 1;"
            + "shakes b;shakes c;shakes b");
        DUE.good(x, "planWet(1, 0)", x.planWet(1, 0), 99);
        DUE.good(x, "planWet(1, 1)", x.planWet(1, 1), 0);
        DUE.good(x, "planWet(1, 2)", x.planWet(1, 2), 2);
        DUE.good(x, "planWet(2, 0) at most 99", x.planWet(2, 0), 99);
        DUE.good(x, "planWet(2, 1)", x.planWet(2, 1), 1);
        DUE.good(x, "planWet(2, 2)", x.planWet(2, 2), 1);
        DUE.good(x, "planWet(3, 1) of a second shake", x.planWet(3, 1), 1);
        DUE.good(x, "planWet(3, 2) of a second shake", x.planWet(3, 2), 1);
        DUE.good(x, "judge()", x.judge(), 0);
    }

    private static final String DOGS = "shore share 50 wipe 1 wring 2, 1 sun 10 wind 0;towel t patches 2 holds 9 wet 0;"
        + "bather a plain wet 4 cold 0 want 2 size 1;bather d dog wet 9 cold 0 want 0 size 1;"
        + "wipes a t 0;shakes d;wipes d t 1;wipes a t 1";

    private static void dryBy() {
        OneTowel x = Due.told(DOGS);
        DUE.good(x, "dryBy(0) before it is wetter again", x.dryBy(0), 1);
        DUE.good(x, "wetter again", x.planWet(2, 0), 3);
        DUE.good(x, "dryBy(1)", x.dryBy(1), -2);
        OneTowel y = Due.told(PLAN);
        DUE.good(y, "dryBy(0)", y.dryBy(0), -2);
        DUE.good(y, "dryBy(2) from the beginning", y.dryBy(2), 0);
    }

    private static void late() {
        OneTowel x = Due.told(PLAN);
        DUE.good(x, "late()", x.late(), 3);
        DUE.is("late() dry at the minute", Due.told(DOGS + ";home a 1").late(), 0);
        DUE.is("late() a minute behind", Due.told(DOGS + ";home a 0").late(), 1);
        DUE.is("late() never dry", Due.told(DOGS + ";home d 240").late(), 2);
        DUE.is("late() of both", Due.told(DOGS + ";home d 240;home a 0").late(), 3);
        DUE.is("late() without homes", Due.told(DOGS).late(), 0);
        DUE.is("late() behind no step", Due.told(USE + ";home b 0;home a 0").late(), 1);
    }

    private static void actsDoNotCount() {
        OneTowel x = Due.told(PLAN);
        x.wipe(0, 0);
        x.shake(1);
        x.waits(9);
        DUE.good(x, "planWet(0, 0) behind acts", x.planWet(0, 0), 20);
        DUE.good(x, "planWet(7, 1) behind acts", x.planWet(7, 1), 3);
        DUE.good(x, "planTime(7) behind acts", x.planTime(7), 10);
        DUE.good(x, "judge() behind acts", x.judge(), 2);
        DUE.good(x, "late() behind acts", x.late(), 3);
    }
}
