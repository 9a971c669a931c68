/** The edges that term III names: orders, rules, wringing, next, times, fits, look, summers, undoing, marks. */
public final class EdgeChoicesTest {
    private static final Due DUE = new Due("EdgeChoicesTest");
    private static final String NOBODY_WET = " plain wet 0 cold 0 want 0 size 1";

    public static void main(String[] args) {
        patchThatHasLeast();
        ordersOfOneAndSix();
        rulesOfLikeOnes();
        patchesOfSix();
        wringingNoLess();
        wringingAheadOfTheFirst();
        wringingAheadOfTheLast();
        wringingBehindAll();
        nextWithNobodyWet();
        nextByTheLastOfAll();
        timesFromNone();
        minutesOfSun();
        minutesOfWind();
        fitsOfJustSoMuch();
        fitsOfOneAndAll();
        noneFits();
        lookAtOneLeft();
        daysOfASummer();
        seedsOfASummer();
        drawsOfOneAndOf99();
        lastOfOne();
        sixteenKept();
        theRingOfActs();
        threeMarks();
        nothingBehindAMark();
        DUE.end();
    }

    private static String shore(int wipe, int leaves, int wring, int sun, int wind) {
        return "shore share 50 wipe " + wipe + " wring " + leaves + ", " + wring + " sun " + sun + " wind " + wind;
    }

    private static String calm() {
        return shore(0, 0, 0, 0, 0);
    }

    private static String towel(String name, int patches, int holds, int wet) {
        return ";towel " + name + " patches " + patches + " holds " + holds + " wet " + wet;
    }

    private static String bather(String name, int wet, int want) {
        return ";bather " + name + " plain wet " + wet + " cold 1 want " + want + " size 1";
    }

    /** Six bathers, a to f, the last of whom has so many drops, the others none. */
    private static String six(int lastWet, int want) {
        StringBuilder text = new StringBuilder();
        for (char name = 'a'; name < 'f'; name++) {
            text.append(";bather ").append(name).append(NOBODY_WET);
        }
        return text.append(bather("f", lastWet, want)).toString();
    }

    // ---- orders

    /** "by the patch that has least then, the first such": a drop more, and it is another. */
    private static void patchThatHasLeast() {
        String small = calm() + towel("s", 1, 1, 0) + towel("t", 1, 99, 0) + bather("a", 20, 0);
        DUE.is("the first of like patches", Due.told(small).rule(0, 0), 19);
        DUE.is("the second has less", Due.told(small.replace("holds 1 wet 0", "holds 1 wet 1")).rule(0, 0), 10);
        DUE.is("the first has less", Due.told(small.replace("holds 99 wet 0", "holds 99 wet 1")).rule(0, 0), 19);
        DUE.is("times(0) by the first", Due.told(small.replace("want 0", "want 19")).times(0), 1);
        DUE.is("times(0) by both", Due.told(small.replace("want 0", "want 10")).times(0), 2);
    }

    private static void ordersOfOneAndSix() {
        OneTowel one = Due.told(calm() + towel("t", 1, 9, 0) + bather("a", 5, 0));
        DUE.good(one, "wettest() of one", one.wettest(), 3);
        DUE.good(one, "wettestAt(0) of one", one.wettestAt(0), 0);
        DUE.refused(one, "wettestAt(1) of one", one.wettestAt(1), 1);
        DUE.good(one, "coldestAt(0) of one", one.coldestAt(0), 0);
        DUE.refused(one, "coldestAt(1) of one", one.coldestAt(1), 1);
        DUE.good(one, "ruleAt(4, 0) of one", one.ruleAt(4, 0), 0);
        DUE.refused(one, "ruleAt(4, 1) of one", one.ruleAt(4, 1), 1);
        // all orders of six are like ones: the first by numbers
        OneTowel all = Due.told(calm() + towel("t", 1, 99, 99) + six(0, 0));
        DUE.good(all, "wettest() of nothing", all.wettest(), 0);
        DUE.good(all, "coldest() of nothing", all.coldest(), 0);
        for (int i = 0; i < 6; i++) {
            DUE.good(all, "wettestAt(" + i + ")", all.wettestAt(i), i);
            DUE.good(all, "coldestAt(" + i + ")", all.coldestAt(i), i);
            for (int rule = 0; rule < 5; rule++) {
                DUE.good(all, "ruleAt(" + rule + ", " + i + ")", all.ruleAt(rule, i), rule == 4 ? (i + 5) % 6 : i);
            }
        }
        DUE.refused(all, "wettestAt(6)", all.wettestAt(6), 1);
        DUE.refused(all, "coldestAt(6)", all.coldestAt(6), 1);
        DUE.refused(all, "ruleAt(0, 6)", all.ruleAt(0, 6), 1);
    }

    private static void ruleOrder(String bathers, int rule, int... due) {
        OneTowel x = Due.told(calm() + towel("t", 1, 9, 0) + bathers);
        for (int i = 0; i < due.length; i++) {
            DUE.good(x, "ruleAt(" + rule + ", " + i + ") of " + bathers, x.ruleAt(rule, i), due[i]);
        }
    }

    /** "of like ones by numbers": like ones, and a difference of one, the least and the greatest there is. */
    private static void rulesOfLikeOnes() {
        String sizes = ";bather a plain wet 0 cold 0 want 0 size 9;bather b plain wet 0 cold 0 want 0 size 1"
            + ";bather c plain wet 0 cold 0 want 0 size 9;bather d plain wet 0 cold 0 want 0 size 8"
            + ";bather e plain wet 0 cold 0 want 0 size 1";
        ruleOrder(sizes, 0, 0, 1, 2, 3, 4);
        ruleOrder(sizes, 1, 1, 4, 3, 0, 2);
        ruleOrder(sizes, 2, 0, 2, 3, 1, 4);
        ruleOrder(sizes, 3, 0, 1, 2, 3, 4);
        ruleOrder(sizes, 4, 0, 1, 2, 3, 4);
        String drops = bather("a", 0, 0) + bather("b", 98, 0) + bather("c", 99, 0) + bather("d", 98, 0)
            + bather("e", 99, 0);
        ruleOrder(drops, 3, 2, 4, 1, 3, 0);
        ruleOrder(drops, 1, 0, 1, 2, 3, 4);
        // small ones twice: 4 and 4 is as cold as 8, 5 and 5 colder than 9, 9 and 9 coldest
        String cold = ";bather a plain wet 0 cold 8 want 0 size 1;bather b small wet 0 cold 4 want 0 size 1"
            + ";bather c plain wet 0 cold 9 want 0 size 1;bather d small wet 0 cold 5 want 0 size 1"
            + ";bather e small wet 0 cold 9 want 0 size 1;bather f dog wet 0 cold 0 want 0 size 1";
        ruleOrder(cold, 4, 4, 3, 2, 0, 1, 5);
        // by what is told, not by how cold they are now
        OneTowel x = Due.told(calm() + towel("t", 1, 9, 0) + ";bather a plain wet 0 cold 9 want 0 size 1"
            + ";bather b plain wet 9 cold 8 want 0 size 1");
        x.waits(60);
        DUE.good(x, "cold now", x.bather(1, 2), 480);
        DUE.good(x, "ruleAt(4, 0) of told cold", x.ruleAt(4, 0), 0);
    }

    private static void patchesOfSix() {
        OneTowel like = Due.told(calm() + towel("t", 4, 99, 0) + towel("u", 2, 99, 0) + six(0, 0));
        OneTowel last = Due.told(calm() + towel("t", 4, 1, 1) + towel("u", 1, 1, 1) + towel("v", 1, 99, 0)
            + six(98, 0));
        DUE.good(like, "share() of nothing", like.share(), 0);
        DUE.good(last, "share() of the last", last.share(), 49);
        for (int b = 0; b < 6; b++) {
            DUE.good(like, "shareAt(" + b + ") of like ones", like.shareAt(b), 0);
            DUE.good(last, "shareAt(" + b + ") of the last", last.shareAt(b), b == 5 ? 5 : 0);
        }
        DUE.refused(like, "shareAt(6)", like.shareAt(6), 1);
        DUE.refused(like, "shareAt(-1)", like.shareAt(-1), 1);
    }

    // ---- wringing

    private static void wringing(String text, int at, int wettest) {
        OneTowel x = Due.told(text);
        DUE.good(x, "wringing() of " + text, x.wringing(), at);
        DUE.good(x, "wrung() of " + text, x.wrung(), wettest);
        OneTowel y = Due.told(text);
        DUE.good(y, "wrung() first of " + text, y.wrung(), wettest);
    }

    /** "if it is less than without": like is not less, a drop is. */
    private static void wringingNoLess() {
        wringing(calm() + towel("t", 1, 9, 0) + bather("a", 9, 0), -2, 5);
        wringing(calm() + towel("t", 1, 9, 0) + bather("a", 0, 0), -2, 0);
        // half of 1 is nothing, half of 2 is a drop; by the wet patch nothing passes
        wringing(calm() + towel("t", 1, 9, 2) + bather("a", 1, 0), -2, 1);
        wringing(calm() + towel("t", 1, 9, 2) + bather("a", 2, 0), 0, 1);
        wringing(calm() + towel("t", 1, 9, 2) + bather("a", 3, 0), 0, 2);
    }

    /** Ahead of the first bather, by the first and by the last towel. */
    private static void wringingAheadOfTheFirst() {
        wringing(calm() + towel("t", 1, 99, 20) + six(40, 0), 0, 20);
        wringing(calm() + towel("t", 1, 1, 1) + towel("u", 1, 1, 1) + towel("v", 1, 99, 40) + bather("a", 60, 0),
            2, 30);
    }

    /** e is left with 30 by the wet patch, then f by the wrung one: 30; wrung any earlier f would keep 40. */
    private static void wringingAheadOfTheLast() {
        wringing(calm() + towel("t", 1, 99, 20) + six(60, 0).replace("e plain wet 0", "e plain wet 40"), 50, 30);
    }

    /** Wrung earlier, the wind would leave him so little more than the patch has that only five pass. */
    private static void wringingBehindAll() {
        String windy = shore(0, 99, 1, 0, 50) + towel("t", 1, 99, 20);
        wringing(windy + six(60, 0), 60, 20);
        wringing(windy + bather("a", 60, 0), 10, 20);
    }

    // ---- what is next

    private static void next(String text, int wet, int... codes) {
        OneTowel x = Due.told(text);
        int n = codes.length;
        DUE.good(x, "next(" + n + ") of " + text, x.next(n), wet);
        for (int i = 0; i < n; i++) {
            DUE.good(x, "nextAt(" + n + ", " + i + ") of " + text, x.nextAt(n, i), codes[i]);
        }
        DUE.refused(x, "nextAt(" + n + ", " + n + ")", x.nextAt(n, n), 1);
        DUE.refused(x, "nextAt(" + n + ", -1)", x.nextAt(n, -1), 1);
    }

    /** "of like ones of fewest minutes, then the first by numbers". */
    private static void nextWithNobodyWet() {
        String dry = towel("t", 1, 9, 0) + towel("u", 1, 9, 0) + bather("a", 0, 0) + bather("b", 0, 0);
        next(shore(1, 0, 1, 0, 0) + dry, 0, 0);
        next(shore(1, 0, 1, 0, 0) + dry, 0, 0, 0);
        next(shore(1, 0, 1, 0, 0) + dry, 0, 0, 0, 0);
        next(shore(1, 0, 0, 0, 0) + dry, 0, 100);
        next(shore(1, 0, 0, 0, 0) + dry, 0, 100, 100);
        next(shore(9, 0, 8, 0, 0) + dry, 0, 100, 100, 100);
        next(shore(8, 0, 9, 0, 0) + dry, 0, 0, 0, 0);
    }

    private static void nextByTheLastOfAll() {
        String full = calm() + towel("t", 4, 1, 1) + towel("u", 1, 1, 1);
        next(full + towel("v", 1, 99, 0) + six(40, 20), 0, 55);
        next(full + towel("v", 1, 99, 0) + six(40, 20), 0, 0, 55);
        next(full + towel("v", 1, 99, 0) + six(40, 20), 0, 0, 0, 55);
        next(full + towel("v", 1, 50, 50) + six(60, 30), 1, 0);
        next(full + towel("v", 1, 50, 50) + six(60, 30), 0, 102, 55);
        next(full + towel("v", 1, 50, 50) + six(60, 30), 0, 0, 102, 55);
        // a drop less wanted, and three steps aren't enough
        next(full + towel("v", 1, 50, 50) + six(60, 29), 1, 0, 0, 0);
    }

    /** "TIMES (0 .. 60); -2 it isn't enough". */
    private static void timesFromNone() {
        String text = calm() + towel("t", 1, 99, 0);
        DUE.is("times(0) of one dry", Due.told(text + bather("a", 5, 5)).times(0), 0);
        DUE.is("times(0) of a drop too many", Due.told(text + bather("a", 5, 4)).times(0), 1);
        DUE.is("times(0) of two too many", Due.told(text + bather("a", 5, 3)).times(0), 1);
        DUE.is("times(0) that isn't enough", Due.told(text + bather("a", 5, 2)).times(0), -2);
        DUE.is("times(0) by which nothing passes", Due.told(text + bather("a", 1, 0)).times(0), -2);
        DUE.is("times(0) of nothing", Due.told(text + bather("a", 0, 0)).times(0), 0);
        // no other one's
        OneTowel x = Due.told(text + bather("a", 0, 0) + bather("b", 9, 5));
        DUE.good(x, "times(0)", x.times(0), 0);
        DUE.good(x, "times(1)", x.times(1), 1);
        DUE.refused(x, "times(2)", x.times(2), 1);
    }

    /** 5, 3, 2, 1: "till each of its patches has no more than so many DROPS". */
    private static final int[] MINUTES_FROM_FIVE = {-2, 3, 2, 1, 1, 0, 0};

    private static void minutesOfSun() {
        OneTowel x = Due.told(shore(0, 0, 0, 50, 0) + towel("t", 2, 9, 5) + towel("u", 1, 9, 0)
            + towel("v", 1, 99, 99) + bather("a", 0, 0));
        for (int drops = 0; drops < MINUTES_FROM_FIVE.length; drops++) {
            DUE.good(x, "sun(0, " + drops + ")", x.sun(0, drops), MINUTES_FROM_FIVE[drops]);
        }
        DUE.good(x, "sun(0, 99)", x.sun(0, 99), 0);
        DUE.refused(x, "sun(0, 100)", x.sun(0, 100), 2);
        DUE.refused(x, "sun(0, -1)", x.sun(0, -1), 2);
        DUE.good(x, "sun(1, 0) of a dry one", x.sun(1, 0), 0);
        DUE.good(x, "sun(2, 99)", x.sun(2, 99), 0);
        DUE.good(x, "sun(2, 98)", x.sun(2, 98), 1);
        DUE.good(x, "clock() stays", x.clock(), 0);
        DUE.good(x, "patch(0) stays", x.patch(0), 5);
        OneTowel dark = Due.told(calm() + towel("t", 1, 9, 5) + bather("a", 0, 0));
        DUE.good(dark, "sun(0, 5) without sun", dark.sun(0, 5), 0);
        DUE.good(dark, "sun(0, 4) without sun", dark.sun(0, 4), -2);
    }

    private static void minutesOfWind() {
        for (int want = 0; want < MINUTES_FROM_FIVE.length; want++) {
            OneTowel x = Due.told(shore(9, 0, 0, 0, 50) + towel("t", 1, 9, 0) + bather("a", 5, want));
            DUE.good(x, "wind(0) to " + want, x.wind(0), MINUTES_FROM_FIVE[want]);
            DUE.good(x, "drops stay", x.bather(0, 1), 5);
            DUE.good(x, "cold stays", x.bather(0, 2), 0);
        }
        OneTowel calm = Due.told(calm() + towel("t", 1, 9, 0) + bather("a", 5, 5) + bather("b", 5, 4));
        DUE.good(calm, "wind(0) without wind", calm.wind(0), 0);
        DUE.good(calm, "wind(1) without wind", calm.wind(1), -2);
        DUE.refused(calm, "wind(2)", calm.wind(2), 1);
    }

    // ---- what was seen

    private static final String TWO = calm() + towel("t", 2, 99, 0) + bather("a", 20, 0) + bather("b", 40, 0);

    /** Behind ab the patches have 10 and 20, behind ba 20 and 10: just so much, a drop more or less is none. */
    private static void fitsOfJustSoMuch() {
        for (int first = 0; first < 100; first++) {
            int due = first == 10 || first == 20 ? 1 : 0;
            String seen = TWO + ";seen t 0 " + first;
            DUE.is("fits() of " + first, Due.told(seen).fits(), due);
            due = first == 20 ? 1 : 0;
            DUE.is("fits() of " + first + " and 10", Due.told(seen + ";seen t 1 10").fits(), due);
        }
    }

    private static void fitsOfOneAndAll() {
        OneTowel one = Due.told(calm() + towel("t", 1, 99, 0) + bather("a", 20, 0));
        DUE.good(one, "fits() of one", one.fits(), 1);
        DUE.good(one, "fit(0, 0) of one", one.fit(0, 0), 0);
        DUE.refused(one, "fit(1, 0) of one", one.fit(1, 0), 1);
        DUE.refused(one, "fit(0, 1) of one", one.fit(0, 1), 1);
        DUE.refused(one, "fit(-1, 0) of one", one.fit(-1, 0), 1);
        DUE.refused(one, "fit(0, -1) of one", one.fit(0, -1), 1);
        DUE.good(one, "could(0) of one", one.could(0), 1);
        DUE.good(one, "surely(0) of one", one.surely(0), 0);
        OneTowel all = Due.told(calm() + towel("t", 1, 99, 7) + six(0, 0) + ";seen t 0 7");
        DUE.good(all, "fits() of all", all.fits(), 720);
        DUE.refused(all, "fit(-1, 0)", all.fit(-1, 0), 1);
        DUE.refused(all, "fit(720, 0)", all.fit(720, 0), 1);
        DUE.refused(all, "fit(719, 6)", all.fit(719, 6), 1);
        for (int k = 0; k < 6; k++) {
            DUE.good(all, "fit(0, " + k + ")", all.fit(0, k), k);
            DUE.good(all, "fit(719, " + k + ")", all.fit(719, k), 5 - k);
            DUE.good(all, "could(" + k + ")", all.could(k), 63);
            DUE.good(all, "surely(" + k + ")", all.surely(k), -2);
        }
    }

    private static void noneFits() {
        OneTowel x = Due.told(TWO + ";seen t 0 19");
        DUE.good(x, "fits() of none", x.fits(), 0);
        for (int b = 0; b < 2; b++) {
            DUE.refused(x, "fit(0, " + b + ") of none", x.fit(0, b), 1);
            DUE.good(x, "could(" + b + ") of none", x.could(b), 0);
            DUE.good(x, "surely(" + b + ") of none", x.surely(b), -2);
        }
        DUE.refused(x, "look() of none", x.look(), 6);
        DUE.refused(x, "lookMost() of none", x.lookMost(), 6);
    }

    /** "6 (all are seen, none FITS)": as long as one isn't seen there is where to look. */
    private static void lookAtOneLeft() {
        String text = calm() + towel("t", 2, 1, 1) + towel("u", 4, 1, 1) + six(0, 0);
        String[] seen = {";seen t 0 1", ";seen t 1 1", ";seen u 0 1", ";seen u 1 1", ";seen u 2 1", ";seen u 3 1"};
        StringBuilder all = new StringBuilder(text);
        for (int left = 0; left < 6; left++) {
            StringBuilder butOne = new StringBuilder(text);
            for (int p = 0; p < 6; p++) {
                butOne.append(p == left ? "" : seen[p]);
            }
            OneTowel x = Due.told(butOne.toString());
            DUE.good(x, "look() at " + left, x.look(), left);
            DUE.good(x, "lookMost() at " + left, x.lookMost(), 720);
            OneTowel y = Due.told(all.toString());
            DUE.good(y, "look() behind " + left + " seen", y.look(), left);
            all.append(seen[left]);
        }
        OneTowel z = Due.told(all.toString());
        DUE.refused(z, "look() of all seen", z.look(), 6);
        DUE.refused(z, "lookMost() of all seen", z.lookMost(), 6);
        DUE.good(z, "fits() of all seen", z.fits(), 720);
        // one is left, but none fits
        OneTowel none = Due.told(text + ";seen t 0 0");
        DUE.refused(none, "look() of none that fits", none.look(), 6);
    }

    // ---- summers

    private static final String SUMMER = calm() + towel("t", 1, 99, 0) + bather("a", 7, 0);

    /** "n 0 .. 60". By 65,536, which becomes itself, each day makes 98 drops, of which 49 stay. */
    private static void daysOfASummer() {
        OneTowel x = Due.told(SUMMER);
        int[] days = {0, 1, 2, 59, 60};
        for (int n : days) {
            DUE.good(x, "summer(0, 65536, " + n + ")", x.summer(0, 65536, n), 49 * n);
            DUE.good(x, "sixth(0, 0, 65536, " + n + ")", x.sixth(0, 0, 65536, n), n);
        }
        int[] wrong = {-1, 61, Integer.MAX_VALUE, Integer.MIN_VALUE};
        for (int n : wrong) {
            DUE.refused(x, "summer(0, 65536, " + n + ")", x.summer(0, 65536, n), 2);
            DUE.refused(x, "sixth(0, 0, 65536, " + n + ")", x.sixth(0, 0, 65536, n), 2);
        }
    }

    /** "SEED 0 .. 65,536", and where 75 times SEED and 74 goes beyond 65,537 first: 873 becomes 12. */
    private static void seedsOfASummer() {
        OneTowel x = Due.told(SUMMER);
        int[][] seedsStay = {{0, 38}, {1, 26}, {872, 18}, {873, 7}, {65535, 12}, {65536, 49}};
        for (int[] row : seedsStay) {
            DUE.good(x, "summer(0, " + row[0] + ", 1)", x.summer(0, row[0], 1), row[1]);
            DUE.good(x, "sixth(0, 0, " + row[0] + ", 1)", x.sixth(0, 0, row[0], 1), 1);
        }
        int[] wrong = {-1, 65537, Integer.MAX_VALUE, Integer.MIN_VALUE};
        for (int seed : wrong) {
            DUE.refused(x, "summer(0, " + seed + ", 1)", x.summer(0, seed, 1), 2);
            DUE.refused(x, "summer(0, " + seed + ", 0)", x.summer(0, seed, 0), 2);
            DUE.refused(x, "sixth(0, 0, " + seed + ", 1)", x.sixth(0, 0, seed, 1), 2);
        }
    }

    /** "a DRAW mod 99 and 1": from 0 to 98, and from 99 on again. */
    private static void drawsOfOneAndOf99() {
        OneTowel x = Due.told(SUMMER);
        int[][] seedsDrops = {{45438, 1}, {25340, 2}, {62042, 98}, {41944, 99}, {21846, 1}, {1748, 2}, {3493, 99},
            {48932, 1}, {20097, 97}};
        for (int[] row : seedsDrops) {
            DUE.good(x, "summer(0, " + row[0] + ", 1)", x.summer(0, row[0], 1), (row[1] + 1) / 2);
        }
        // what he has from the draw, not what he was told with, nor what he has now
        x.waits(1);
        DUE.good(x, "wipe(0, 0)", x.wipe(0, 0), 3);
        DUE.good(x, "summer(0, 41944, 1) behind acts", x.summer(0, 41944, 1), 50);
        DUE.good(x, "drops stay", x.bather(0, 1), 4);
    }

    private static void lastOfOne() {
        OneTowel x = Due.told(calm() + towel("t", 1, 99, 0) + six(9, 0));
        for (int b = 0; b < 6; b++) {
            DUE.good(x, "sixth(" + b + ", 0, 0, 60)", x.sixth(b, 0, 0, 60), b == 5 ? 60 : 0);
            DUE.good(x, "sixth(" + b + ", 0, 0, 0)", x.sixth(b, 0, 0, 0), 0);
            // f alone is cold, so he comes first and e last
            DUE.good(x, "sixth(" + b + ", 4, 0, 60)", x.sixth(b, 4, 0, 60), b == 4 ? 60 : 0);
        }
        DUE.refused(x, "sixth(6, 0, 0, 60)", x.sixth(6, 0, 0, 60), 1);
        DUE.refused(x, "sixth(-1, 0, 0, 60)", x.sixth(-1, 0, 0, 60), 1);
    }

    // ---- undoing and marks

    /** "UNDO: the latest (16 are kept)". */
    private static void sixteenKept() {
        int[] acts = {0, 1, 15, 16, 17, 18, 31, 32, 33, 48, 49, 100};
        for (int many : acts) {
            OneTowel x = Due.told(SUMMER);
            for (int i = 0; i < many; i++) {
                x.waits(1);
            }
            int kept = Math.min(many, 16);
            DUE.is("size(11) of " + many, x.size(11), kept);
            for (int i = 1; i <= kept; i++) {
                DUE.granted(x, "undo() " + i + " of " + many, x.undo());
                DUE.is("clock() behind undo " + i + " of " + many, x.clock(), many - i);
                DUE.is("cold behind undo " + i + " of " + many, x.bather(0, 2), many - i);
                DUE.is("size(11) behind undo " + i + " of " + many, x.size(11), kept - i);
            }
            DUE.denied(x, "one undo() more of " + many, x.undo(), 6);
            DUE.is("clock() at last of " + many, x.clock(), many - kept);
        }
    }

    /** Acts and undos in turn, so that the sixteen go round both ways. */
    private static void theRingOfActs() {
        OneTowel x = Due.told(SUMMER);
        int minute = 0;
        for (int round = 1; round <= 6; round++) {
            for (int i = 0; i < 13; i++) {
                minute += round;
                DUE.good(x, "waits(" + round + ")", x.waits(round), minute);
            }
            for (int i = 0; i < 7; i++) {
                minute -= round;
                DUE.granted(x, "undo() of round " + round, x.undo());
            }
            DUE.is("clock() of round " + round, x.clock(), minute);
            DUE.is("size(11) of round " + round, x.size(11), round == 1 ? 6 : 9);
        }
        // of the nine six are of the sixth round, three of the fifth
        for (int i = 0; i < 9; i++) {
            minute -= i < 6 ? 6 : 5;
            DUE.granted(x, "undo() of all", x.undo());
            DUE.is("clock() of all", x.clock(), minute);
        }
        DUE.denied(x, "undo() of no more", x.undo(), 6);
        DUE.is("clock() stays", x.clock(), minute);
    }

    /** "MARKS: up to 3". */
    private static void threeMarks() {
        OneTowel x = Due.told(SUMMER);
        for (int mark = 0; mark < 3; mark++) {
            DUE.denied(x, "back(" + mark + ") ahead of it", x.back(mark), 1);
            DUE.good(x, "mark()", x.mark(), mark);
            DUE.is("size(12)", x.size(12), mark + 1);
            DUE.good(x, "waits(1)", x.waits(1), mark + 1);
        }
        DUE.refused(x, "a fourth mark()", x.mark(), 3);
        DUE.refused(x, "a fifth mark()", x.mark(), 3);
        DUE.is("size(12) of three", x.size(12), 3);
        DUE.is("size(11) of marks", x.size(11), 3);
        DUE.denied(x, "back(3)", x.back(3), 1);
        DUE.denied(x, "back(-1)", x.back(-1), 1);
        for (int mark = 2; mark >= 0; mark--) {
            DUE.granted(x, "back(" + mark + ")", x.back(mark));
            DUE.is("clock() by " + mark, x.clock(), mark);
            DUE.is("all marks stay", x.size(12), 3);
        }
        DUE.refused(x, "mark() behind back", x.mark(), 3);
        DUE.is("another shore", Due.tell(x, SUMMER), 1);
        DUE.denied(x, "back(0) of another shore", x.back(0), 1);
        DUE.good(x, "mark() of another shore", x.mark(), 0);
    }

    /** "gone back to one, nothing can be undone"; behind it what is done then can. */
    private static void nothingBehindAMark() {
        OneTowel x = Due.told(SUMMER);
        x.mark();
        for (int i = 0; i < 20; i++) {
            x.waits(2);
        }
        DUE.is("size(11) ahead of back", x.size(11), 16);
        DUE.granted(x, "back(0)", x.back(0));
        DUE.is("size(11) behind back", x.size(11), 0);
        DUE.denied(x, "undo() behind back", x.undo(), 6);
        DUE.is("clock() by the mark", x.clock(), 0);
        for (int i = 1; i <= 17; i++) {
            DUE.good(x, "waits(1)", x.waits(1), i);
        }
        for (int i = 16; i >= 1; i--) {
            DUE.granted(x, "undo() of what was done then", x.undo());
            DUE.is("clock()", x.clock(), i);
        }
        DUE.denied(x, "undo() of the seventeenth", x.undo(), 6);
        // a mark of a minute that was undone stays
        OneTowel y = Due.told(SUMMER);
        y.waits(5);
        y.mark();
        DUE.granted(y, "undo() ahead of the mark", y.undo());
        DUE.is("clock() undone", y.clock(), 0);
        DUE.granted(y, "back(0) to what was undone", y.back(0));
        DUE.is("clock() by the mark of it", y.clock(), 5);
        DUE.denied(y, "undo() of what was undone", y.undo(), 6);
    }
}
