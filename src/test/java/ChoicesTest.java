/** Promises 31 to 39: patches for bathers, wringing, what is next, minutes. */
public final class ChoicesTest {
    private static final Due DUE = new Due("ChoicesTest");
    private static final String CALM = "shore share 50 wipe 0 wring 0, 0 sun 0 wind 0;";

    public static void main(String[] args) {
        sharing();
        sharingInTheWind();
        sharingOfSix();
        askedFirst();
        anotherShoreOrMark();
        wringing();
        wringingForTheWind();
        nextSteps();
        nextOfLikeOnes();
        nextByTheSecondTowel();
        times();
        sun();
        wind();
        wrongOnes();
        withoutAShore();
        DUE.end();
    }

    private static void shared(OneTowel x, int wettest, int... patches) {
        DUE.good(x, "share()", x.share(), wettest);
        for (int b = 0; b < patches.length; b++) {
            DUE.good(x, "shareAt(" + b + ")", x.shareAt(b), patches[b]);
        }
        DUE.refused(x, "shareAt(none)", x.shareAt(patches.length), 1);
        DUE.refused(x, "shareAt(-1)", x.shareAt(-1), 1);
    }

    private static void sharing() {
        String two = CALM + "towel t patches 2 holds 50 wet 0;";
        shared(Due.told(two + "bather a plain wet 20 cold 0 want 0 size 1;"
            + "bather b plain wet 40 cold 0 want 0 size 1"), 20, 0, 1);
        // a and b by the first (10, then 25), c by the second (20): no other way leaves less than 25
        OneTowel x = Due.told(two + "bather a plain wet 20 cold 0 want 0 size 1;"
            + "bather b plain wet 40 cold 0 want 0 size 1;bather c plain wet 40 cold 0 want 0 size 1");
        shared(x, 25, 0, 0, 1);
        // the second takes more, so he who is behind must have it
        shared(Due.told(CALM + "towel t patches 1 holds 10 wet 0;towel s patches 1 holds 50 wet 0;"
            + "bather a plain wet 20 cold 0 want 0 size 1;bather b plain wet 80 cold 0 want 0 size 1"), 40, 0, 1);
        shared(Due.told(CALM + "towel t patches 1 holds 50 wet 0;towel s patches 1 holds 10 wet 0;"
            + "bather a plain wet 20 cold 0 want 0 size 1;bather b plain wet 80 cold 0 want 0 size 1"), 40, 1, 0);
        DUE.good(x, "wipe(0, 1)", x.wipe(0, 1), 10);
        // 10, 40, 40 by 0 and 10
        shared(x, 25, 0, 0, 1);
        DUE.granted(x, "undo()", x.undo());
        shared(x, 25, 0, 0, 1);
        DUE.good(x, "wipe(2, 0)", x.wipe(2, 0), 20);
        shared(x, 20, 0, 1);
    }

    private static void shared(OneTowel x, int wettest, int first, int second) {
        DUE.good(x, "share()", x.share(), wettest);
        DUE.good(x, "shareAt(0)", x.shareAt(0), first);
        DUE.good(x, "shareAt(1)", x.shareAt(1), second);
    }

    private static void sharingInTheWind() {
        OneTowel x = Due.told("shore share 50 wipe 2 wring 0, 0 sun 0 wind 50;towel t patches 1 holds 99 wet 0;"
            + "bather a plain wet 9 cold 0 want 0 size 1;bather b plain wet 80 cold 0 want 0 size 1");
        // a: 9 less 4 is 5, then 3, 2, 1, 1; b: 80, 40, 20, less 8 is 12, then 6, 3
        DUE.good(x, "share() in the wind", x.share(), 3);
        DUE.good(x, "rule(0, 0) in the wind", x.rule(0, 0), 3);
    }

    /** Six who are wiped one behind another: the first stands longest in the wind. */
    private static void sharingOfSix() {
        StringBuilder text = new StringBuilder("shore share 1 wipe 1 wring 0, 1 sun 0 wind 10;"
            + "towel t patches 1 holds 99 wet 99");
        for (int b = 0; b < 6; b++) {
            text.append(";bather ").append((char) ('a' + b)).append(" plain wet 99 cold 0 want 0 size 1");
        }
        OneTowel x = Due.told(text.toString());
        // 99, 90, 81, 73, 66, 60, 54
        DUE.good(x, "share() of six", x.share(), 54);
        DUE.good(x, "rule(0, 0) of six", x.rule(0, 0), 54);
        DUE.good(x, "wrung() of six", x.wrung(), 49);
        OneTowel first = Due.told(text.toString().replace("wet 99 cold", "wet 0 cold")
            .replace("bather a plain wet 0", "bather a plain wet 99"));
        DUE.good(first, "share() of the first of six", first.share(), 54);
        OneTowel dry = Due.told(CALM + "towel t patches 1 holds 9 wet 0;bather a plain wet 0 cold 0 want 0 size 1");
        DUE.good(dry, "share() of nothing", dry.share(), 0);
        DUE.good(dry, "wrung() of nothing", dry.wrung(), 0);
    }

    private static final String FIRST = CALM + "towel t patches 1 holds 10 wet 10;towel s patches 1 holds 50 wet 0;"
        + "bather a plain wet 20 cold 0 want 12 size 1;bather b plain wet 80 cold 0 want 0 size 1";

    private static void askedFirst() {
        DUE.is("shareAt(1) asked first", Due.told(FIRST).shareAt(1), 1);
        DUE.is("wringing() asked first", Due.told(FIRST).wringing(), 0);
        DUE.is("wrung() asked first", Due.told(FIRST).wrung(), 40);
        DUE.is("nextAt(1, 0) asked first", Due.told(FIRST).nextAt(1, 0), 1);
        DUE.is("nextAt(2, 1) asked first", Due.told(FIRST).nextAt(2, 1), 1);
        DUE.is("next(3) asked first", Due.told(FIRST).next(3), 1);
    }

    private static void anotherShoreOrMark() {
        OneTowel x = Due.told(FIRST);
        DUE.good(x, "mark()", x.mark(), 0);
        askedOfFirst(x);
        DUE.good(x, "wipe(1, 1)", x.wipe(1, 1), 40);
        DUE.good(x, "share() then", x.share(), 40);
        DUE.good(x, "next(1) then", x.next(1), 2);
        DUE.granted(x, "back(0)", x.back(0));
        askedOfFirst(x);
        DUE.is("another shore", Due.tell(x, CALM + "towel t patches 1 holds 50 wet 10;"
            + "bather a plain wet 30 cold 0 want 15 size 1"), 1);
        DUE.good(x, "share() of another", x.share(), 20);
        DUE.good(x, "wringing() of another", x.wringing(), 0);
        DUE.good(x, "wrung() of another", x.wrung(), 15);
        DUE.good(x, "next(1) of another", x.next(1), 1);
        DUE.good(x, "next(2) of another", x.next(2), 0);
    }

    /** By numbers a by s leaves 10, then b by t, which is full, 80; t wrung ahead of all: a by t, b by s leaves 40. */
    private static void askedOfFirst(OneTowel x) {
        DUE.good(x, "share()", x.share(), 40);
        DUE.good(x, "shareAt(0)", x.shareAt(0), 0);
        DUE.good(x, "wringing()", x.wringing(), 0);
        DUE.good(x, "wrung()", x.wrung(), 40);
        DUE.good(x, "next(1)", x.next(1), 1);
        DUE.good(x, "nextAt(1, 0)", x.nextAt(1, 0), 1);
    }

    private static void wringing() {
        OneTowel x = Due.told(CALM + "towel t patches 1 holds 50 wet 10;towel u patches 1 holds 50 wet 40;"
            + "bather a plain wet 50 cold 0 want 0 size 1;bather b plain wet 60 cold 0 want 0 size 1");
        // without 45; ahead of a 43 and 35, ahead of b 30 and 30, behind all 45
        DUE.good(x, "rule(0, 0)", x.rule(0, 0), 45);
        DUE.good(x, "wringing()", x.wringing(), 10);
        DUE.good(x, "wrung()", x.wrung(), 30);
        OneTowel u = Due.told(CALM + "towel t patches 1 holds 50 wet 20;towel u patches 1 holds 50 wet 10;"
            + "bather a plain wet 50 cold 0 want 0 size 1;bather b plain wet 90 cold 0 want 0 size 1");
        // a by u (30 then, 30 left), b by t (55 left); a towel wrung ahead of b: 45 left, by t as by u
        // ahead of a: by t 25 left, then by u 50; by u 25 left, then by t 55
        DUE.good(u, "wringing() of like ones", u.wringing(), 10);
        DUE.good(u, "wrung() of like ones", u.wrung(), 45);
        OneTowel v = Due.told(CALM + "towel t patches 1 holds 1 wet 0;towel u patches 1 holds 50 wet 10;"
            + "bather a plain wet 50 cold 0 want 0 size 1;bather b plain wet 90 cold 0 want 0 size 1");
        // both by t, which takes 1 (90); u wrung ahead of a: b by u (45), ahead of b likewise
        DUE.good(v, "wringing() of the second towel", v.wringing(), 1);
        DUE.good(v, "wrung() of the second towel", v.wrung(), 49);
        OneTowel none = Due.told(CALM + "towel t patches 1 holds 50 wet 0;bather a plain wet 50 cold 0 want 0 size 1");
        DUE.good(none, "wringing() by which it is no less", none.wringing(), -2);
        DUE.good(none, "wrung() without", none.wrung(), 25);
        DUE.good(none, "wipe(0, 0)", none.wipe(0, 0), 25);
        DUE.good(none, "wringing() then", none.wringing(), 0);
        DUE.good(none, "wrung() then", none.wrung(), 13);
        DUE.granted(none, "undo()", none.undo());
        DUE.good(none, "wringing() again", none.wringing(), -2);
    }

    /** A wring from which nothing comes lets minutes go by all the same. */
    private static void wringingForTheWind() {
        OneTowel x = Due.told("shore share 1 wipe 0 wring 99, 9 sun 0 wind 50;towel t patches 1 holds 9 wet 9;"
            + "bather a plain wet 80 cold 0 want 0 size 1");
        DUE.good(x, "wringing() for the wind", x.wringing(), 0);
        DUE.good(x, "wrung() for the wind", x.wrung(), 1);
        OneTowel behind = Due.told("shore share 50 wipe 0 wring 99, 1 sun 0 wind 50;towel t patches 1 holds 99 wet 0;"
            + "bather a plain wet 81 cold 0 want 0 size 1");
        // ahead: 81, 41, 21; behind: 81, 41, 21
        DUE.good(behind, "wringing() of like places", behind.wringing(), 0);
        OneTowel best = Due.told("shore share 50 wipe 0 wring 99, 1 sun 0 wind 50;towel t patches 1 holds 99 wet 20;"
            + "bather a plain wet 60 cold 0 want 0 size 1");
        // ahead: 60, 30, 25; behind: 60, 40, 20
        DUE.good(best, "wringing() behind all", best.wringing(), 10);
        DUE.good(best, "wrung() behind all", best.wrung(), 20);
    }

    private static void steps(OneTowel x, int wet, int... codes) {
        int n = codes.length;
        DUE.good(x, "next(" + n + ")", x.next(n), wet);
        for (int i = 0; i < n; i++) {
            DUE.good(x, "nextAt(" + n + ", " + i + ")", x.nextAt(n, i), codes[i]);
        }
        DUE.refused(x, "nextAt(" + n + ", " + n + ")", x.nextAt(n, n), 1);
        DUE.refused(x, "nextAt(" + n + ", -1)", x.nextAt(n, -1), 1);
    }

    private static void nextSteps() {
        OneTowel x = Due.told("shore share 50 wipe 2 wring 0, 1 sun 0 wind 0;towel t patches 1 holds 50 wet 10;"
            + "bather a plain wet 20 cold 0 want 12 size 1;bather b plain wet 30 cold 0 want 16 size 1");
        steps(x, 2, 100);
        steps(x, 1, 100, 0);
        steps(x, 1, 100, 0, 100);
        steps(x, 2, 100);
        DUE.good(x, "wring(0)", x.wring(0), 10);
        // a: 10 left and dry, two minutes; b: 15 left and dry, two minutes
        steps(x, 1, 0);
        steps(x, 1, 0, 100);
        // a wipe, a wring, a wipe
        steps(x, 0, 0, 100, 10);
        DUE.granted(x, "undo()", x.undo());
        steps(x, 2, 100);
        OneTowel y = Due.told("shore share 50 wipe 1 wring 0, 2 sun 0 wind 0;towel t patches 2 holds 50 wet 10;"
            + "towel u patches 1 holds 50 wet 4;"
            + "bather a plain wet 20 cold 0 want 12 size 1;bather b plain wet 30 cold 0 want 17 size 1");
        steps(y, 1, 2);
        steps(y, 1, 0, 2);
        // a by the third: 12 left; b by the first and by the second: 20, then 15 left
        steps(y, 0, 2, 10, 11);
    }

    private static void nextOfLikeOnes() {
        OneTowel x = Due.told("shore share 50 wipe 1 wring 0, 1 sun 0 wind 0;towel t patches 1 holds 9 wet 0;"
            + "bather a plain wet 0 cold 0 want 0 size 1");
        steps(x, 0, 0);
        steps(x, 0, 0, 0, 0);
        OneTowel wind = Due.told("shore share 1 wipe 1 wring 0, 2 sun 0 wind 50;towel t patches 1 holds 9 wet 0;"
            + "towel u patches 1 holds 9 wet 0;bather a plain wet 8 cold 0 want 2 size 1");
        // a wring's two minutes dry him, of two steps the wipes' two are fewest
        steps(wind, 0, 100);
        steps(wind, 0, 0, 0);
        OneTowel longer = Due.told("shore share 1 wipe 1 wring 0, 3 sun 0 wind 50;towel t patches 1 holds 9 wet 0;"
            + "towel u patches 1 holds 9 wet 0;bather a plain wet 16 cold 0 want 2 size 1");
        steps(longer, 0, 100);
        steps(longer, 0, 0, 100);
        steps(longer, 0, 0, 0, 0);
    }

    private static void nextByTheSecondTowel() {
        OneTowel x = Due.told(CALM.replace("wring 0, 0", "wring 0, 1") + "towel t patches 1 holds 9 wet 9;"
            + "towel s patches 1 holds 50 wet 30;bather a plain wet 40 cold 0 want 20 size 1");
        steps(x, 1, 0);
        steps(x, 0, 101, 1);
        steps(x, 0, 0, 101, 1);
        OneTowel y = Due.told(CALM + "towel t patches 1 holds 9 wet 9;towel s patches 1 holds 50 wet 30;"
            + "towel u patches 1 holds 40 wet 40;bather a plain wet 80 cold 0 want 30 size 1");
        // by s 20 (60, 50), not by u, which is full; u wrung: 40 (40, 40)
        steps(y, 1, 0);
        steps(y, 1, 0, 0);
        // s wrung, by s 40 (40, 40), s wrung, ... takes four; by s, s wrung, by s 30 (30, 30) takes three
        steps(y, 0, 1, 101, 1);
        OneTowel wind = Due.told("shore share 1 wipe 0 wring 0, 1 sun 0 wind 50;towel t patches 1 holds 9 wet 0;"
            + "bather a plain wet 4 cold 0 want 1 size 1;bather b plain wet 4 cold 0 want 1 size 1");
        steps(wind, 2, 0);
        steps(wind, 0, 100, 100);
    }

    private static void times() {
        String two = "towel t patches 2 holds 99 wet 0;";
        int[][] due = {{40, 0}, {39, 1}, {20, 1}, {19, 2}, {10, 2}, {9, -2}, {0, -2}};
        for (int[] d : due) {
            OneTowel x = Due.told(CALM + two + "bather a plain wet 40 cold 0 want " + d[0] + " size 1");
            DUE.good(x, "times(0) till " + d[0], x.times(0), d[1]);
        }
        OneTowel wind = Due.told("shore share 1 wipe 1 wring 0, 0 sun 0 wind 50;" + two
            + "bather a plain wet 1 cold 0 want 0 size 1;bather b plain wet 80 cold 0 want 5 size 1");
        DUE.good(wind, "times(1) by wind", wind.times(1), 4);
        DUE.good(wind, "times(0) by wind", wind.times(0), -2);
        DUE.good(wind, "nothing has happened", wind.bather(1, 1), 80);
        OneTowel slow = Due.told("shore share 1 wipe 2 wring 0, 0 sun 0 wind 2;" + two
            + "bather a plain wet 99 cold 0 want 49 size 1");
        DUE.good(slow, "times(0) of a slow wind", slow.times(0), 25);
        OneTowel x = Due.told(CALM + two + "bather a plain wet 40 cold 0 want 10 size 1");
        DUE.good(x, "wipe(0, 1)", x.wipe(0, 1), 20);
        DUE.good(x, "times(0) then", x.times(0), 1);
    }

    /** 40, 30, 23, 18, 14, 11, 9, 7, 6, 5, 4, 3, and no less. */
    private static final int[] BY_A_QUARTER = {40, 30, 23, 18, 14, 11, 9, 7, 6, 5, 4, 3};

    private static int minutesTo(int drops) {
        for (int m = 0; m < BY_A_QUARTER.length; m++) {
            if (BY_A_QUARTER[m] <= drops) {
                return m;
            }
        }
        return -2;
    }

    private static void sun() {
        OneTowel x = Due.told("shore share 50 wipe 1 wring 0, 0 sun 25 wind 0;towel u patches 1 holds 9 wet 9;"
            + "towel t patches 2 holds 99 wet 40;bather a plain wet 60 cold 0 want 0 size 1");
        for (int drops = 0; drops <= 99; drops++) {
            DUE.good(x, "sun(1, " + drops + ")", x.sun(1, drops), minutesTo(drops));
        }
        DUE.refused(x, "sun(1, 100)", x.sun(1, 100), 2);
        DUE.refused(x, "sun(1, -1)", x.sun(1, -1), 2);
        DUE.refused(x, "sun(2, 0)", x.sun(2, 0), 1);
        DUE.refused(x, "sun(-1, 0)", x.sun(-1, 0), 1);
        DUE.refused(x, "sun(2, 100)", x.sun(2, 100), 1);
        DUE.good(x, "patch(1) stays", x.patch(1), 40);
        DUE.good(x, "wipe(0, 2)", x.wipe(0, 2), 10);
        DUE.good(x, "sun(1, 40) of the wetter patch", x.sun(1, 40), 1);
        OneTowel slow = Due.told("shore share 50 wipe 1 wring 0, 0 sun 2 wind 0;towel t patches 1 holds 99 wet 99;"
            + "bather a plain wet 60 cold 0 want 0 size 1");
        DUE.good(slow, "sun(0, 49) of a weak sun", slow.sun(0, 49), 50);
        DUE.good(slow, "sun(0, 48) of a weak sun", slow.sun(0, 48), -2);
    }

    private static void wind() {
        for (int want = 0; want <= 99; want++) {
            OneTowel x = Due.told("shore share 50 wipe 1 wring 0, 0 sun 0 wind 25;towel u patches 1 holds 9 wet 9;"
                + "bather a plain wet 0 cold 0 want 0 size 1;bather b plain wet 40 cold 0 want " + want + " size 1");
            DUE.good(x, "wind(1) to " + want, x.wind(1), minutesTo(want));
            DUE.good(x, "wind(0)", x.wind(0), 0);
            DUE.refused(x, "wind(2)", x.wind(2), 1);
            DUE.refused(x, "wind(-1)", x.wind(-1), 1);
            DUE.good(x, "waits(1)", x.waits(1), 1);
            int then = minutesTo(want);
            DUE.good(x, "wind(1) to " + want + " then", x.wind(1), then > 0 ? then - 1 : then);
        }
        OneTowel slow = Due.told("shore share 50 wipe 1 wring 0, 0 sun 0 wind 2;towel t patches 1 holds 99 wet 99;"
            + "bather a plain wet 99 cold 0 want 49 size 1");
        DUE.good(slow, "wind(0) of a weak wind", slow.wind(0), 50);
    }

    private static void wrongOnes() {
        OneTowel x = Due.told(CALM + "towel t patches 1 holds 9 wet 0;bather a plain wet 9 cold 0 want 0 size 1");
        int[] wrong = {0, -1, 4, Integer.MAX_VALUE, Integer.MIN_VALUE};
        for (int n : wrong) {
            DUE.refused(x, "next(" + n + ")", x.next(n), 2);
            DUE.refused(x, "nextAt(" + n + ", 0)", x.nextAt(n, 0), 2);
            DUE.refused(x, "nextAt(" + n + ", -1)", x.nextAt(n, -1), 2);
        }
        int[] nobody = {-1, 1, Integer.MAX_VALUE, Integer.MIN_VALUE};
        for (int b : nobody) {
            DUE.refused(x, "times(" + b + ")", x.times(b), 1);
            DUE.refused(x, "wind(" + b + ")", x.wind(b), 1);
            DUE.refused(x, "shareAt(" + b + ")", x.shareAt(b), 1);
            DUE.refused(x, "nextAt(1, " + b + ")", x.nextAt(1, b), 1);
        }
    }

    private static void withoutAShore() {
        OneTowel x = new OneTowel();
        DUE.refused(x, "share() without", x.share(), 1);
        DUE.refused(x, "shareAt(0) without", x.shareAt(0), 1);
        DUE.refused(x, "wringing() without", x.wringing(), 1);
        DUE.refused(x, "wrung() without", x.wrung(), 1);
        DUE.refused(x, "next(1) without", x.next(1), 1);
        DUE.refused(x, "next(0) without", x.next(0), 1);
        DUE.refused(x, "nextAt(1, 0) without", x.nextAt(1, 0), 1);
        DUE.refused(x, "nextAt(0, 0) without", x.nextAt(0, 0), 1);
        DUE.refused(x, "times(0) without", x.times(0), 1);
        DUE.refused(x, "sun(0, 0) without", x.sun(0, 0), 1);
        DUE.refused(x, "sun(0, -1) without", x.sun(0, -1), 1);
        DUE.refused(x, "wind(0) without", x.wind(0), 1);
    }
}
