/** The edges that term II names: wipes, wrings, hangs, shakes, minutes, steps of no use, the plan, who is late. */
public final class EdgeDropsTest {
    private static final Due DUE = new Due("EdgeDropsTest");

    public static void main(String[] args) {
        wipeOfWhatHeHasMore();
        wipeOfWhatThePatchHolds();
        wipeOfAHairyOne();
        minutesOfAWipe();
        wringOfWhatIsMore();
        minutesOfAWring();
        hangInTheSun();
        minutesOfAHang();
        shakeOfADog();
        shakeOfAnother();
        minuteInTheWind();
        minuteOfTheCold();
        lostBelowNothing();
        wipeOfNoUse();
        wringOfNoUse();
        hangOfNoUse();
        shakeOfNoUse();
        planOfNoSteps();
        planOfTwelveSteps();
        dryAtWhatHeWants();
        lateAtTheMinute();
        DUE.end();
    }

    private static String shore(int share, int wipe, int leaves, int wring, int sun, int wind) {
        return "shore share " + share + " wipe " + wipe + " wring " + leaves + ", " + wring + " sun " + sun
            + " wind " + wind;
    }

    private static String calm(int share) {
        return shore(share, 0, 0, 0, 0, 0);
    }

    private static String towel(String name, int patches, int holds, int wet) {
        return ";towel " + name + " patches " + patches + " holds " + holds + " wet " + wet;
    }

    private static String bather(String name, String kind, int wet, int cold, int want) {
        return ";bather " + name + " " + kind + " wet " + wet + " cold " + cold + " want " + want + " size 1";
    }

    // ---- wipes

    private static void passes(int share, String kind, int wet, int holds, int patchWet, int due) {
        String text = calm(share) + towel("t", 1, holds, patchWet) + bather("b", kind, wet, 0, 0) + ";wipes b t 0";
        OneTowel x = Due.told(text);
        DUE.good(x, "passes(0, 0) of " + text, x.passes(0, 0), due);
        DUE.is("the plan's drops of " + text, x.planWet(1, 0), wet - due);
        DUE.is("the plan's patch of " + text, x.planPatch(1, 0), patchWet + due);
        DUE.is("judge() of " + text, x.judge(), due == 0 ? 0 : -2);
        if (due == 0) {
            DUE.refused(x, "wipe(0, 0) of " + text, x.wipe(0, 0), 5);
        } else {
            DUE.good(x, "wipe(0, 0) of " + text, x.wipe(0, 0), due);
        }
        DUE.is("drops of " + text, x.bather(0, 1), wet - due);
        DUE.is("patch of " + text, x.patch(0), patchWet + due);
    }

    /** "so many in a hundred (share) of what he has more than the patch ..., downwards, none if he hasn't more". */
    private static void wipeOfWhatHeHasMore() {
        passes(50, "plain", 0, 99, 0, 0);
        passes(50, "plain", 1, 99, 0, 0);
        passes(50, "plain", 2, 99, 0, 1);
        passes(50, "plain", 3, 99, 0, 1);
        passes(50, "plain", 99, 99, 0, 49);
        passes(50, "plain", 20, 99, 20, 0);
        passes(50, "plain", 21, 99, 20, 0);
        passes(50, "plain", 22, 99, 20, 1);
        passes(50, "plain", 19, 99, 20, 0);
        passes(50, "plain", 0, 99, 99, 0);
        passes(50, "plain", 99, 99, 99, 0);
        // of a hundredth nobody ever has enough; of two hundredths fifty are enough
        passes(1, "plain", 99, 99, 0, 0);
        passes(2, "plain", 49, 99, 0, 0);
        passes(2, "plain", 50, 99, 0, 1);
        passes(2, "plain", 99, 99, 0, 1);
        passes(33, "plain", 3, 99, 0, 0);
        passes(33, "plain", 4, 99, 0, 1);
        passes(49, "plain", 99, 99, 0, 48);
    }

    /** "at most what it holds besides what it has". */
    private static void wipeOfWhatThePatchHolds() {
        passes(50, "plain", 40, 20, 0, 20);
        passes(50, "plain", 40, 21, 0, 20);
        passes(50, "plain", 40, 19, 0, 19);
        passes(50, "plain", 40, 1, 0, 1);
        passes(50, "plain", 40, 10, 10, 0);
        passes(50, "plain", 40, 10, 9, 1);
        passes(50, "plain", 99, 98, 98, 0);
        passes(50, "plain", 12, 11, 10, 1);
    }

    /** "of a hairy one no more than he has above 3". */
    private static void wipeOfAHairyOne() {
        for (int wet = 0; wet <= 3; wet++) {
            passes(50, "hairy", wet, 99, 0, 0);
        }
        passes(50, "hairy", 4, 99, 0, 1);
        passes(50, "hairy", 5, 99, 0, 2);
        passes(50, "hairy", 6, 99, 0, 3);
        passes(50, "hairy", 7, 99, 0, 3);
        passes(50, "hairy", 99, 99, 0, 49);
        passes(50, "hairy", 6, 2, 0, 2);
        passes(50, "plain", 4, 99, 0, 2);
        passes(50, "dog", 4, 99, 0, 2);
        passes(50, "small", 4, 99, 0, 2);
    }

    /** "Then the minutes of a wipe go by": the wind takes of what he has left, not of what he had. */
    private static void minutesOfAWipe() {
        int[] minutes = {0, 1, 9};
        int[] left = {10, 9, 9};
        for (int i = 0; i < minutes.length; i++) {
            OneTowel x = Due.told(shore(50, minutes[i], 0, 0, 0, 10) + towel("t", 1, 99, 0)
                + bather("b", "plain", 20, 1, 0));
            DUE.good(x, "wipe(0, 0)", x.wipe(0, 0), 10);
            DUE.is("clock() of " + minutes[i], x.clock(), minutes[i]);
            DUE.is("drops of " + minutes[i], x.bather(0, 1), left[i]);
            DUE.is("cold of " + minutes[i], x.bather(0, 2), minutes[i]);
            DUE.is("lost() of " + minutes[i], x.lost(), 10 - left[i]);
        }
    }

    // ---- wrings and hangs

    /** "each of its patches that has more is left with so much". */
    private static void wringOfWhatIsMore() {
        int[][] leavesWetOut = {{0, 0, 0}, {0, 1, 3}, {0, 99, 297}, {5, 4, 0}, {5, 5, 0}, {5, 6, 3}, {98, 99, 3},
            {99, 99, 0}, {99, 98, 0}};
        for (int[] row : leavesWetOut) {
            OneTowel x = Due.told(shore(50, 0, row[0], 0, 0, 0) + towel("s", 1, 99, row[1])
                + towel("t", 3, 99, row[1]) + bather("b", "plain", 0, 0, 0) + ";wrings t");
            String of = "wring(1) of " + row[1] + " that leaves " + row[0];
            int left = row[2] == 0 ? row[1] : row[0];
            DUE.is("the plan's " + of, x.planPatch(1, 3), left);
            DUE.is("judge() of the " + of, x.judge(), row[2] == 0 ? 0 : -2);
            if (row[2] == 0) {
                DUE.refused(x, of, x.wring(1), 5);
            } else {
                DUE.good(x, of, x.wring(1), row[2]);
                DUE.refused(x, "once more " + of, x.wring(1), 5);
            }
            DUE.is("the other towel of " + of, x.patch(0), row[1]);
            for (int p = 1; p <= 3; p++) {
                DUE.is("patch(" + p + ") of " + of, x.patch(p), left);
            }
            DUE.is("lost() of " + of, x.lost(), row[2]);
        }
        // one of its patches has more, by a drop: that is enough
        OneTowel one = Due.told(shore(50, 0, 5, 0, 0, 0) + towel("t", 2, 99, 5) + bather("b", "plain", 7, 0, 0));
        DUE.refused(one, "wring(0) of just what is left", one.wring(0), 5);
        DUE.good(one, "wipe(0, 1)", one.wipe(0, 1), 1);
        DUE.good(one, "wring(0) of a drop", one.wring(0), 1);
        DUE.is("patch(0) that hadn't more", one.patch(0), 5);
        DUE.is("patch(1) that had", one.patch(1), 5);
    }

    private static void minutesOfAWring() {
        int[] minutes = {0, 1, 9};
        for (int many : minutes) {
            OneTowel x = Due.told(shore(50, 0, 0, many, 50, 0) + towel("t", 1, 99, 9)
                + bather("b", "plain", 20, 3, 0));
            DUE.good(x, "wring(0)", x.wring(0), 9);
            DUE.is("clock() of " + many, x.clock(), many);
            DUE.is("cold of " + many, x.bather(0, 2), 3 * many);
        }
    }

    /** "minutes go by, in each of which its patches have so many in a hundred (sun) less, downwards". */
    private static void hangInTheSun() {
        int[][] sunWetMinutesLeft = {{50, 1, 60, 1}, {50, 2, 1, 1}, {50, 3, 1, 2}, {50, 99, 1, 50}, {50, 99, 2, 25},
            {50, 99, 60, 1}, {0, 99, 60, 99}, {1, 99, 60, 99}, {2, 49, 60, 49}, {2, 50, 1, 49}, {2, 50, 60, 49}};
        for (int[] row : sunWetMinutesLeft) {
            OneTowel x = Due.told(shore(50, 0, 0, 0, row[0], 0) + towel("s", 1, 99, row[1])
                + towel("t", 2, 99, row[1]) + bather("b", "plain", 0, 0, 0) + ";hangs t " + row[2]);
            String of = row[1] + " for " + row[2] + " minutes of " + row[0];
            DUE.is("the plan's hang of " + of, x.planPatch(1, 2), row[3]);
            DUE.is("judge() of " + of, x.judge(), -2);
            DUE.good(x, "hang(1) of " + of, x.hang(1, row[2]), 2 * (row[1] - row[3]));
            DUE.is("patch(1) of " + of, x.patch(1), row[3]);
            DUE.is("patch(2) of " + of, x.patch(2), row[3]);
            DUE.is("the other towel of " + of, x.patch(0), row[1]);
            DUE.is("lost() of " + of, x.lost(), 2 * (row[1] - row[3]));
            DUE.is("clock() of " + of, x.clock(), row[2]);
        }
    }

    /** "HANG (1 .. 60)", "5 (its patches have nothing)": one of them with a drop is enough. */
    private static void minutesOfAHang() {
        String text = shore(50, 0, 0, 0, 50, 0) + towel("t", 2, 99, 0) + bather("b", "plain", 2, 0, 0);
        int[] wrong = {0, 61, -1, Integer.MIN_VALUE, Integer.MAX_VALUE};
        for (int minutes : wrong) {
            OneTowel x = Due.told(text);
            DUE.refused(x, "hang(0, " + minutes + ")", x.hang(0, minutes), 2);
            DUE.is("clock() behind it", x.clock(), 0);
        }
        int[] right = {1, 60};
        for (int minutes : right) {
            OneTowel x = Due.told(text);
            DUE.refused(x, "hang(0, " + minutes + ") of nothing", x.hang(0, minutes), 5);
            DUE.is("clock() of nothing", x.clock(), 0);
            DUE.good(x, "wipe(0, 1)", x.wipe(0, 1), 1);
            DUE.good(x, "hang(0, " + minutes + ") of a drop", x.hang(0, minutes), 0);
            DUE.is("clock()", x.clock(), minutes);
        }
    }

    // ---- shakes

    /** "a dog is left with half, downwards, and each other one has a drop more (99 at most)"; "no time goes by". */
    private static void shakeOfADog() {
        int[][] wetLeft = {{1, 0}, {2, 1}, {3, 1}, {98, 49}, {99, 49}};
        int[][] othersThen = {{0, 1}, {98, 99}, {99, 99}};
        for (int[] dog : wetLeft) {
            for (int[] other : othersThen) {
                OneTowel x = Due.told(shore(50, 9, 0, 9, 50, 50) + towel("t", 1, 99, 7)
                    + bather("a", "plain", other[0], 9, 0) + bather("d", "dog", dog[0], 9, 0)
                    + bather("e", "dog", other[0], 9, 0) + ";shakes d");
                String of = "shake(1) of " + dog[0] + " beside " + other[0];
                DUE.is("the plan's " + of, x.planWet(1, 1), dog[1]);
                DUE.is("the plan's other of " + of, x.planWet(1, 0), other[1]);
                DUE.granted(x, of, x.shake(1));
                DUE.is("drops of " + of, x.bather(1, 1), dog[1]);
                DUE.is("an other one of " + of, x.bather(0, 1), other[1]);
                DUE.is("an other dog of " + of, x.bather(2, 1), other[1]);
                DUE.is("lost() of " + of, x.lost(), dog[0] - dog[1] - 2 * (other[1] - other[0]));
                DUE.is("clock() of " + of, x.clock(), 0);
                DUE.is("cold of " + of, x.bather(1, 2), 0);
                DUE.is("patch of " + of, x.patch(0), 7);
            }
        }
        OneTowel alone = Due.told(calm(50) + towel("t", 1, 9, 0) + bather("d", "dog", 99, 0, 0));
        DUE.granted(alone, "shake(0) of a dog alone", alone.shake(0));
        DUE.is("drops of a dog alone", alone.bather(0, 1), 49);
        DUE.is("lost() of a dog alone", alone.lost(), 50);
        // in the plan a dog who has nothing shakes all the same, but only once
        OneTowel nothing = Due.told(calm(50) + towel("t", 1, 9, 0) + bather("a", "plain", 98, 0, 0)
            + bather("d", "dog", 0, 0, 0) + ";shakes d;shakes d");
        DUE.is("the other behind a dog with nothing", nothing.planWet(1, 0), 99);
        DUE.is("a dog with nothing", nothing.planWet(1, 1), 0);
        DUE.is("the other behind a second shake", nothing.planWet(2, 0), 99);
        DUE.denied(nothing, "shake(1) of nothing", nothing.shake(1), 5);
        DUE.is("the other behind a refused one", nothing.bather(0, 1), 98);
    }

    /** "any other one has a drop less (0 at least)". */
    private static void shakeOfAnother() {
        String[] kinds = {"plain", "hairy", "small"};
        int[] wets = {0, 1, 2, 3, 99};
        for (String kind : kinds) {
            for (int wet : wets) {
                OneTowel x = Due.told(shore(50, 9, 0, 9, 50, 50) + towel("t", 1, 99, 7)
                    + bather("a", kind, wet, 9, 0) + bather("b", "plain", 50, 9, 0) + ";shakes a;shakes a");
                String of = "shake(0) of " + kind + " " + wet;
                int left = wet == 0 ? 0 : wet - 1;
                DUE.is("the plan's " + of, x.planWet(1, 0), left);
                DUE.is("a second time the plan's " + of, x.planWet(2, 0), left);
                DUE.is("judge() of " + of, x.judge(), wet == 0 ? 0 : 1);
                if (wet == 0) {
                    DUE.denied(x, of, x.shake(0), 5);
                } else {
                    DUE.granted(x, of, x.shake(0));
                    DUE.denied(x, "a second " + of, x.shake(0), 5);
                }
                DUE.is("drops of " + of, x.bather(0, 1), left);
                DUE.is("the other one of " + of, x.bather(1, 1), 50);
                DUE.is("lost() of " + of, x.lost(), wet - left);
                DUE.is("has shaken, " + of, x.bather(0, 7), wet == 0 ? 0 : 1);
            }
        }
    }

    // ---- minutes

    /** "each bather has so many in a hundred (wind) less, downwards". */
    private static void minuteInTheWind() {
        int[][] windWetLeft = {{0, 99, 99}, {1, 99, 99}, {2, 49, 49}, {2, 50, 49}, {50, 0, 0}, {50, 1, 1},
            {50, 2, 1}, {50, 3, 2}, {50, 99, 50}, {49, 99, 51}};
        for (int[] row : windWetLeft) {
            OneTowel x = Due.told(shore(50, 0, 0, 0, 0, row[0]) + towel("t", 1, 99, 60)
                + bather("a", "plain", row[1], 0, 0) + bather("b", "hairy", row[1], 0, 0));
            DUE.good(x, "waits(1)", x.waits(1), 1);
            String of = row[1] + " in a wind of " + row[0];
            DUE.is("drops of " + of, x.bather(0, 1), row[2]);
            DUE.is("a hairy one's drops of " + of, x.bather(1, 1), row[2]);
            DUE.is("lost() of " + of, x.lost(), 2 * (row[1] - row[2]));
            DUE.is("the patch of " + of, x.patch(0), 60);
        }
        OneTowel hour = Due.told(shore(50, 0, 0, 0, 0, 50) + towel("t", 1, 99, 60)
            + bather("a", "plain", 99, 1, 1));
        DUE.good(hour, "waits(60)", hour.waits(60), 60);
        // 99, 50, 25, 13, 7, 4, 2, 1: not dry behind six minutes
        DUE.is("drops behind an hour", hour.bather(0, 1), 1);
        DUE.is("cold behind an hour", hour.bather(0, 2), 6);
    }

    /** "then each who isn't DRY is colder by his cold (small ones by twice as much)". */
    private static void minuteOfTheCold() {
        int[][] wetWantWindCold = {{5, 5, 0, 0}, {6, 5, 0, 9}, {4, 5, 0, 0}, {0, 0, 0, 0}, {1, 0, 0, 9}, {1, 0, 50, 9},
            {2, 1, 50, 0}, {3, 1, 50, 9}, {99, 99, 0, 0}, {99, 98, 0, 9}};
        for (int[] row : wetWantWindCold) {
            OneTowel x = Due.told(shore(50, 0, 0, 0, 0, row[2]) + towel("t", 1, 99, 60)
                + bather("a", "plain", row[0], 9, row[1]) + bather("b", "small", row[0], 9, row[1])
                + bather("c", "plain", row[0], 0, row[1]) + bather("d", "small", row[0], 0, row[1]));
            DUE.good(x, "waits(1)", x.waits(1), 1);
            String of = row[0] + " that wants " + row[1] + " in a wind of " + row[2];
            DUE.is("cold of " + of, x.bather(0, 2), row[3]);
            DUE.is("cold of a small one of " + of, x.bather(1, 2), 2 * row[3]);
            DUE.is("no cold of " + of, x.bather(2, 2) + x.bather(3, 2), 0);
        }
    }

    /** "LOST so far (less than 0 can be, by dogs)": as little as six dogs can make it. */
    private static void lostBelowNothing() {
        StringBuilder text = new StringBuilder(calm(50)).append(towel("t", 1, 99, 0));
        for (int b = 0; b < 6; b++) {
            text.append(bather(String.valueOf((char) ('a' + b)), b == 0 ? "dog" : "plain", b == 0 ? 1 : 0, 0, 0));
        }
        OneTowel x = Due.told(text.toString());
        DUE.good(x, "water()", x.water(), 1);
        DUE.granted(x, "shake(0)", x.shake(0));
        DUE.good(x, "lost() below nothing", x.lost(), -4);
        DUE.good(x, "water() then", x.water(), 5);
        DUE.granted(x, "undo()", x.undo());
        DUE.good(x, "lost() undone", x.lost(), 0);
        // -1 is an answer, not a refusal
        OneTowel three = Due.told(calm(50) + towel("t", 1, 9, 0) + bather("a", "dog", 1, 0, 0)
            + bather("b", "plain", 0, 0, 0) + bather("c", "plain", 0, 0, 0));
        DUE.granted(three, "shake(0) of three", three.shake(0));
        DUE.good(three, "lost() of -1", three.lost(), -1);
    }

    // ---- steps of no use

    private static void judged(String begun, String steps, int due) {
        OneTowel x = Due.told(begun + steps);
        DUE.good(x, "judge() of " + begun + steps, x.judge(), due);
    }

    /** "a WIPE by which nothing passes". */
    private static void wipeOfNoUse() {
        String begun = calm(50) + towel("t", 1, 5, 3) + towel("f", 1, 5, 5) + bather("a", "plain", 5, 0, 0)
            + bather("b", "plain", 4, 0, 0) + bather("h", "hairy", 3, 0, 0);
        judged(begun, ";wipes a t 0", -2);
        judged(begun, ";wipes b t 0", 0);
        judged(begun, ";wipes a f 0", 0);
        judged(begun, ";wipes h t 0", 0);
        judged(begun, ";wipes a t 0;wipes a t 0", 1);
        // it is done all the same: its minutes go by
        OneTowel x = Due.told(begun.replace("wipe 0", "wipe 9") + ";wipes b t 0");
        DUE.is("planTime(1) of no use", x.planTime(1), 9);
    }

    /** "a WRING of a towel without a patch that has more than is left". */
    private static void wringOfNoUse() {
        String begun = shore(50, 0, 5, 9, 0, 0) + towel("t", 2, 9, 5) + towel("u", 1, 9, 6) + towel("v", 1, 9, 0)
            + bather("a", "plain", 7, 0, 0);
        judged(begun, ";wrings t", 0);
        judged(begun, ";wrings v", 0);
        judged(begun, ";wrings u", -2);
        judged(begun, ";wrings u;wrings u", 1);
        judged(begun, ";wipes a t 1;wrings t", -2);
        DUE.is("planTime(1) of no use", Due.told(begun + ";wrings t").planTime(1), 9);
    }

    /** "a HANG of one whose patches have nothing": a drop that no sun takes is something. */
    private static void hangOfNoUse() {
        String begun = shore(50, 0, 0, 0, 0, 0) + towel("t", 2, 9, 0) + towel("u", 1, 9, 1)
            + bather("a", "plain", 2, 0, 0);
        judged(begun, ";hangs t 1", 0);
        judged(begun, ";hangs u 1", -2);
        judged(begun, ";wipes a t 1;hangs t 1", -2);
        judged(begun, ";wrings u;hangs u 60", 1);
        DUE.is("planTime(1) of no use", Due.told(begun + ";hangs t 60").planTime(1), 60);
    }

    /** "a SHAKE by one who has shaken, or has nothing". */
    private static void shakeOfNoUse() {
        String begun = calm(50) + towel("t", 1, 9, 0) + bather("a", "plain", 1, 0, 0) + bather("b", "plain", 0, 0, 0)
            + bather("d", "dog", 1, 0, 0) + bather("e", "dog", 0, 0, 0);
        judged(begun, ";shakes a", -2);
        judged(begun, ";shakes b", 0);
        judged(begun, ";shakes d", -2);
        judged(begun, ";shakes e", 0);
        judged(begun, ";shakes a;shakes a", 1);
        judged(begun, ";shakes d;shakes d", 1);
        // a dog's drop makes him wet who had nothing, but he who has shaken has shaken
        judged(begun, ";shakes d;shakes b;shakes e", -2);
        judged(begun, ";shakes a;shakes d;shakes a", 2);
        judged(begun, ";shakes d;shakes a;shakes b;shakes e;shakes b", 4);
    }

    // ---- the plan

    /** "behind k STEPS (k 0 up to all)", of none; "(or none: at the beginning)". */
    private static void planOfNoSteps() {
        OneTowel x = Due.told(calm(50) + towel("t", 1, 9, 4) + bather("a", "plain", 5, 1, 5)
            + bather("b", "plain", 6, 1, 5) + ";home a 0;home b 240");
        DUE.good(x, "planWet(0, 1)", x.planWet(0, 1), 6);
        DUE.good(x, "planPatch(0, 0)", x.planPatch(0, 0), 4);
        DUE.good(x, "planCold(0, 1)", x.planCold(0, 1), 0);
        DUE.good(x, "planTime(0)", x.planTime(0), 0);
        DUE.refused(x, "planWet(1, 1)", x.planWet(1, 1), 2);
        DUE.refused(x, "planPatch(1, 0)", x.planPatch(1, 0), 2);
        DUE.refused(x, "planCold(1, 1)", x.planCold(1, 1), 2);
        DUE.refused(x, "planTime(1)", x.planTime(1), 2);
        DUE.refused(x, "step(0, 0)", x.step(0, 0), 1);
        DUE.good(x, "judge() of no steps", x.judge(), -2);
        DUE.good(x, "dryBy(0) of no steps", x.dryBy(0), 0);
        DUE.good(x, "dryBy(1) of no steps", x.dryBy(1), -2);
        DUE.good(x, "late() of no steps", x.late(), 2);
    }

    /** All twelve are of use, or only the last of them isn't; he is dry behind the last. */
    private static void planOfTwelveSteps() {
        StringBuilder text = new StringBuilder(shore(50, 9, 0, 9, 50, 0)).append(towel("t", 1, 99, 0))
            .append(bather("a", "plain", 64, 9, 1)).append(";home a 108");
        for (int i = 0; i < 6; i++) {
            text.append(";wipes a t 0;wrings t");
        }
        OneTowel x = Due.told(text.toString());
        DUE.good(x, "step(11, 0)", x.step(11, 0), 1);
        DUE.refused(x, "step(12, 0)", x.step(12, 0), 1);
        DUE.good(x, "planWet(12, 0)", x.planWet(12, 0), 1);
        DUE.good(x, "planWet(10, 0)", x.planWet(10, 0), 2);
        DUE.good(x, "planPatch(11, 0)", x.planPatch(11, 0), 1);
        DUE.good(x, "planPatch(12, 0)", x.planPatch(12, 0), 0);
        DUE.good(x, "planTime(12)", x.planTime(12), 108);
        // dry behind the eleventh, of nine minutes each: cold for ninety
        DUE.good(x, "planCold(12, 0)", x.planCold(12, 0), 810);
        DUE.good(x, "dryBy(0)", x.dryBy(0), 11);
        DUE.good(x, "judge()", x.judge(), -2);
        DUE.good(x, "late()", x.late(), 0);
        DUE.refused(x, "planWet(13, 0)", x.planWet(13, 0), 2);
        DUE.refused(x, "planPatch(13, 0)", x.planPatch(13, 0), 2);
        DUE.refused(x, "planCold(13, 0)", x.planCold(13, 0), 2);
        DUE.refused(x, "planTime(13)", x.planTime(13), 2);
        String eleven = text.substring(0, text.lastIndexOf(";"));
        DUE.is("judge() of eleven and a shake", Due.told(eleven + ";shakes a").judge(), -2);
        DUE.is("judge() of the last one", Due.told(eleven + ";wipes a t 0").judge(), 11);
        String ten = eleven.substring(0, eleven.lastIndexOf(";"));
        DUE.is("judge() of the last but one", Due.told(ten + ";wrings t;shakes a").judge(), 10);
    }

    /** "DRY: a bather's DROPS are no more than he wants". */
    private static void dryAtWhatHeWants() {
        int[][] wetWantDry = {{0, 0, 1}, {1, 0, 0}, {5, 4, 0}, {5, 5, 1}, {5, 6, 1}, {99, 98, 0}, {99, 99, 1},
            {0, 99, 1}};
        for (int[] row : wetWantDry) {
            OneTowel x = Due.told(calm(50) + towel("t", 1, 9, 0) + bather("a", "plain", row[0], 0, row[1]));
            String of = row[0] + " that wants " + row[1];
            DUE.good(x, "bather(0, 6) of " + of, x.bather(0, 6), row[2]);
            DUE.good(x, "wetOnes() of " + of, x.wetOnes(), 1 - row[2]);
            DUE.good(x, "dryBy(0) of " + of, x.dryBy(0), row[2] == 1 ? 0 : -2);
            DUE.good(x, "wind(0) of " + of, x.wind(0), row[2] == 1 ? 0 : -2);
            if (row[2] == 1) {
                DUE.nobodyLed(x, 0);
            } else {
                DUE.is("led(0) of " + of, x.led(0), 0);
                DUE.nobodyLed(x, 1);
            }
        }
    }

    /** "who has a home, and isn't DRY behind some STEP (or none: at the beginning) at that minute or ahead". */
    private static void lateAtTheMinute() {
        String begun = shore(50, 4, 0, 0, 0, 0) + towel("t", 2, 99, 0) + bather("a", "plain", 20, 0, 10)
            + bather("d", "dog", 1, 0, 0);
        String wiped = begun + ";wipes a t 0";
        DUE.is("late() at the minute", Due.told(wiped + ";home a 4").late(), 0);
        DUE.is("late() a minute ahead", Due.told(wiped + ";home a 3").late(), 1);
        DUE.is("late() a minute behind", Due.told(wiped + ";home a 5").late(), 0);
        DUE.is("late() at 0", Due.told(wiped + ";home a 0").late(), 1);
        DUE.is("late() at 240", Due.told(wiped + ";home a 240").late(), 0);
        DUE.is("late() without a home", Due.told(wiped).late(), 0);
        DUE.is("late() never dry", Due.told(begun + ";hangs t 60;home a 240").late(), 1);
        // dry at the minute is enough, though a dog makes him wetter at the same minute
        DUE.is("late() of one wet again", Due.told(wiped + ";shakes d;home a 4").late(), 0);
        DUE.is("late() of one wetter ahead", Due.told(begun + ";shakes d;wipes a t 0;home a 4").late(), 1);
        // dry at the beginning, and by a shake at minute 0
        String dry = begun.replace("want 10", "want 20");
        DUE.is("late() of one dry at the beginning", Due.told(dry + ";home a 0").late(), 0);
        DUE.is("late() of one dry at the beginning only", Due.told(dry + ";shakes d;home a 0").late(), 0);
        DUE.is("late() of a shake at 0", Due.told(begun + ";shakes d;home d 0").late(), 0);
        DUE.is("late() of a shake at 4", Due.told(wiped + ";shakes d;home d 0").late(), 2);
        StringBuilder six = new StringBuilder(calm(50)).append(towel("t", 1, 9, 0));
        for (int b = 0; b < 6; b++) {
            String name = String.valueOf((char) ('a' + b));
            six.append(bather(name, "plain", b % 2, 0, 0)).append(";home ").append(name).append(" 240");
        }
        DUE.is("late() of six", Due.told(six.toString()).late(), 42);
        DUE.is("late() of all six", Due.told(six.toString().replace("wet 0 cold", "wet 9 cold")).late(), 63);
    }
}
