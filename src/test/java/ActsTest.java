/** Promises 48 to 55: acts, undoing them, marks. */
public final class ActsTest {
    private static final Due DUE = new Due("ActsTest");
    private static final String SHORE = "shore share 50 wipe 2 wring 3, 4 sun 25 wind 10;"
        + "towel t patches 2 holds 20 wet 9;towel s patches 1 holds 30 wet 0;"
        + "bather a plain wet 40 cold 2 want 6 size 3;bather b dog wet 9 cold 1 want 2 size 5;"
        + "bather c small wet 98 cold 3 want 9 size 2";
    /** Without wind: only what is done changes anything but the minutes and the cold. */
    private static final String STILL = SHORE.replace("wind 10", "wind 0");

    public static void main(String[] args) {
        wipe();
        wring();
        hang();
        shakeOfADog();
        shakeOfOthers();
        waits();
        undo();
        sixteenAreKept();
        marks();
        anotherShore();
        withoutAShore();
        DUE.end();
    }

    private static void same(OneTowel x, String what, int... due) {
        int[] got = {x.bather(0, 1), x.bather(1, 1), x.bather(2, 1), x.patch(0), x.patch(1), x.patch(2), x.clock(),
            x.lost()};
        for (int i = 0; i < due.length; i++) {
            DUE.is(what + ": drops, patches, minute, lost [" + i + "]", got[i], due[i]);
        }
    }

    private static void wipe() {
        OneTowel x = Due.told(STILL);
        DUE.good(x, "wipe(0, 0)", x.wipe(0, 0), 11);
        same(x, "wipe", 29, 9, 98, 20, 9, 0, 2, 0);
        DUE.good(x, "cold of a", x.bather(0, 2), 4);
        DUE.good(x, "cold of c", x.bather(2, 2), 12);
        DUE.refused(x, "wipe(0, 0) of a full one", x.wipe(0, 0), 5);
        DUE.refused(x, "wipe(1, 1) of like ones", x.wipe(1, 1), 5);
        same(x, "refused wipes", 29, 9, 98, 20, 9, 0, 2, 0);
        DUE.is("size(11)", x.size(11), 1);
        DUE.good(x, "wipe(2, 2)", x.wipe(2, 2), 30);
        same(x, "wipe", 29, 9, 68, 20, 9, 30, 4, 0);
        int[] wrong = {-1, 3, Integer.MAX_VALUE, Integer.MIN_VALUE};
        for (int i : wrong) {
            DUE.refused(x, "wipe(" + i + ", 0)", x.wipe(i, 0), 1);
            DUE.refused(x, "wipe(0, " + i + ")", x.wipe(0, i), 1);
        }
        OneTowel windy = Due.told(SHORE);
        DUE.good(windy, "wipe(0, 2) in the wind", windy.wipe(0, 2), 20);
        // 20, 18, 17; 9, 9; 98, 89, 81
        same(windy, "wipe in the wind", 17, 9, 81, 9, 9, 20, 2, 20);
    }

    private static void wring() {
        OneTowel x = Due.told(STILL);
        DUE.good(x, "wring(0)", x.wring(0), 12);
        same(x, "wring", 40, 9, 98, 3, 3, 0, 4, 12);
        DUE.good(x, "cold of b", x.bather(1, 2), 4);
        DUE.refused(x, "wring(0) again", x.wring(0), 5);
        DUE.refused(x, "wring(1) of a dry one", x.wring(1), 5);
        same(x, "refused wrings", 40, 9, 98, 3, 3, 0, 4, 12);
        DUE.good(x, "wipe(1, 1)", x.wipe(1, 1), 3);
        DUE.good(x, "wring(0) of one patch", x.wring(0), 3);
        same(x, "wring of one patch", 40, 6, 98, 3, 3, 0, 10, 15);
        int[] wrong = {-1, 2, Integer.MAX_VALUE, Integer.MIN_VALUE};
        for (int t : wrong) {
            DUE.refused(x, "wring(" + t + ")", x.wring(t), 1);
        }
    }

    private static void hang() {
        OneTowel x = Due.told(STILL);
        // 9, 7, 6, 5
        DUE.good(x, "hang(0, 3)", x.hang(0, 3), 8);
        same(x, "hang", 40, 9, 98, 5, 5, 0, 3, 8);
        DUE.good(x, "cold of a", x.bather(0, 2), 6);
        DUE.good(x, "hang(0, 60)", x.hang(0, 60), 4);
        same(x, "hang", 40, 9, 98, 3, 3, 0, 63, 12);
        DUE.good(x, "hang(0, 1) by which nothing goes", x.hang(0, 1), 0);
        same(x, "hang of nothing", 40, 9, 98, 3, 3, 0, 64, 12);
        DUE.refused(x, "hang(1, 1) of a dry one", x.hang(1, 1), 5);
        DUE.refused(x, "hang(0, 0)", x.hang(0, 0), 2);
        DUE.refused(x, "hang(0, 61)", x.hang(0, 61), 2);
        DUE.refused(x, "hang(1, 0) of a dry one", x.hang(1, 0), 2);
        DUE.refused(x, "hang(2, 0)", x.hang(2, 0), 1);
        DUE.refused(x, "hang(-1, 1)", x.hang(-1, 1), 1);
        DUE.refused(x, "hang(least, least)", x.hang(Integer.MIN_VALUE, Integer.MIN_VALUE), 1);
        DUE.refused(x, "hang(0, most)", x.hang(0, Integer.MAX_VALUE), 2);
        same(x, "refused hangs", 40, 9, 98, 3, 3, 0, 64, 12);
        OneTowel windy = Due.told(SHORE);
        // the wind takes 4, then 3 of a; 9, then 8 of c: that is lost, but not by sun
        DUE.good(windy, "hang(0, 2) in the wind", windy.hang(0, 2), 6);
        same(windy, "hang in the wind", 33, 9, 81, 6, 6, 0, 2, 30);
    }

    private static void shakeOfADog() {
        OneTowel x = Due.told(STILL);
        DUE.granted(x, "shake(1)", x.shake(1));
        same(x, "a dog's shake", 41, 4, 99, 9, 9, 0, 0, 3);
        DUE.good(x, "he has shaken", x.bather(1, 7), 1);
        DUE.denied(x, "shake(1) again", x.shake(1), 5);
        same(x, "a second shake", 41, 4, 99, 9, 9, 0, 0, 3);
        OneTowel full = Due.told(STILL.replace("wet 98", "wet 99"));
        DUE.granted(full, "shake(1)", full.shake(1));
        same(full, "none above 99", 41, 4, 99, 9, 9, 0, 0, 4);
        OneTowel dry = Due.told(STILL.replace("wet 9 cold", "wet 0 cold"));
        DUE.denied(dry, "shake(1) of a dog with nothing", dry.shake(1), 5);
        same(dry, "a dog with nothing", 40, 0, 98, 9, 9, 0, 0, 0);
        DUE.good(dry, "he hasn't shaken", dry.bather(1, 7), 0);
        OneTowel one = Due.told(STILL.replace("wet 9 cold", "wet 1 cold"));
        DUE.granted(one, "shake(1) of a dog with one", one.shake(1));
        same(one, "a dog with one", 41, 0, 99, 9, 9, 0, 0, -1);
    }

    private static void shakeOfOthers() {
        OneTowel x = Due.told(STILL.replace("wet 40", "wet 1"));
        DUE.granted(x, "shake(0)", x.shake(0));
        same(x, "a shake", 0, 9, 98, 9, 9, 0, 0, 1);
        DUE.granted(x, "shake(2)", x.shake(2));
        same(x, "a small one's shake", 0, 9, 97, 9, 9, 0, 0, 2);
        DUE.denied(x, "shake(0) again", x.shake(0), 5);
        DUE.granted(x, "shake(1)", x.shake(1));
        same(x, "a dog's shake", 1, 4, 98, 9, 9, 0, 0, 5);
        DUE.denied(x, "shake(0) who has shaken", x.shake(0), 5);
        int[] wrong = {-1, 3, Integer.MAX_VALUE, Integer.MIN_VALUE};
        for (int b : wrong) {
            DUE.denied(x, "shake(" + b + ")", x.shake(b), 1);
        }
        DUE.is("size(11)", x.size(11), 3);
    }

    private static void waits() {
        OneTowel x = Due.told(SHORE);
        DUE.good(x, "waits(1)", x.waits(1), 1);
        same(x, "a minute", 36, 9, 89, 9, 9, 0, 1, 13);
        DUE.good(x, "waits(60)", x.waits(60), 61);
        same(x, "61 minutes", 9, 9, 9, 9, 9, 0, 61, 40 + 98 - 18);
        DUE.good(x, "cold of a", x.bather(0, 2), 122);
        DUE.good(x, "cold of b", x.bather(1, 2), 61);
        int[] wrong = {0, -1, 61, Integer.MAX_VALUE, Integer.MIN_VALUE};
        for (int minutes : wrong) {
            DUE.refused(x, "waits(" + minutes + ")", x.waits(minutes), 2);
        }
        DUE.good(x, "clock()", x.clock(), 61);
    }

    private static void undo() {
        OneTowel x = Due.told(SHORE);
        DUE.denied(x, "undo() of nothing", x.undo(), 6);
        x.wipe(0, 0);
        x.wring(0);
        x.hang(0, 2);
        x.shake(1);
        x.waits(5);
        int[] wet = {x.bather(0, 1), x.bather(1, 1), x.bather(2, 1)};
        DUE.is("five acts", x.size(11), 5);
        DUE.granted(x, "undo() of waits", x.undo());
        DUE.good(x, "clock() behind it", x.clock(), 8);
        DUE.good(x, "he has shaken", x.bather(1, 7), 1);
        DUE.granted(x, "undo() of shake", x.undo());
        DUE.good(x, "he hasn't shaken", x.bather(1, 7), 0);
        DUE.granted(x, "shake(1) once more", x.shake(1));
        DUE.good(x, "waits(5) once more", x.waits(5), 13);
        same(x, "done again", wet[0], wet[1], wet[2]);
        for (int i = 5; i > 0; i--) {
            DUE.is("acts that can be undone", x.size(11), i);
            DUE.granted(x, "undo() " + i, x.undo());
        }
        same(x, "all undone", 40, 9, 98, 9, 9, 0, 0, 0);
        DUE.is("cold of all undone", x.bather(0, 2) + x.bather(1, 2) + x.bather(2, 2), 0);
        DUE.denied(x, "undo() of no more", x.undo(), 6);
    }

    private static void sixteenAreKept() {
        OneTowel x = Due.told(SHORE);
        for (int i = 1; i <= 20; i++) {
            DUE.good(x, "waits(1) " + i, x.waits(1), i);
            DUE.is("acts that can be undone", x.size(11), Math.min(i, 16));
        }
        for (int i = 19; i >= 4; i--) {
            DUE.granted(x, "undo()", x.undo());
            DUE.good(x, "clock() undone", x.clock(), i);
        }
        DUE.denied(x, "undo() of the fifth latest", x.undo(), 6);
        DUE.good(x, "clock() at last", x.clock(), 4);
        DUE.good(x, "cold of a at last", x.bather(0, 2), 8);
        DUE.good(x, "waits(2)", x.waits(2), 6);
        DUE.granted(x, "undo()", x.undo());
        DUE.good(x, "clock() once more", x.clock(), 4);
    }

    private static void marks() {
        OneTowel x = Due.told(SHORE);
        DUE.denied(x, "back(0) without marks", x.back(0), 1);
        DUE.good(x, "mark() 0", x.mark(), 0);
        x.wipe(0, 0);
        x.shake(1);
        int[] wet = {x.bather(0, 1), x.bather(1, 1), x.bather(2, 1), x.patch(0), x.patch(1), x.patch(2), 2, x.lost()};
        int cold = x.bather(2, 2);
        DUE.good(x, "mark() 1", x.mark(), 1);
        DUE.is("a mark is no act", x.size(11), 2);
        DUE.is("two marks", x.size(12), 2);
        x.hang(0, 9);
        DUE.denied(x, "back(2)", x.back(2), 1);
        DUE.denied(x, "back(-1)", x.back(-1), 1);
        DUE.denied(x, "back(most)", x.back(Integer.MAX_VALUE), 1);
        DUE.denied(x, "back(least)", x.back(Integer.MIN_VALUE), 1);
        DUE.is("acts stay", x.size(11), 3);
        DUE.granted(x, "back(0)", x.back(0));
        same(x, "back at the first", 40, 9, 98, 9, 9, 0, 0, 0);
        DUE.good(x, "he hasn't shaken", x.bather(1, 7), 0);
        DUE.is("nothing can be undone", x.size(11), 0);
        DUE.denied(x, "undo() behind back", x.undo(), 6);
        DUE.is("marks stay", x.size(12), 2);
        DUE.granted(x, "back(1)", x.back(1));
        same(x, "forth to the second", wet);
        DUE.good(x, "he has shaken", x.bather(1, 7), 1);
        DUE.good(x, "cold of c", x.bather(2, 2), cold);
        DUE.good(x, "waits(1)", x.waits(1), 3);
        DUE.good(x, "mark() 2", x.mark(), 2);
        DUE.refused(x, "mark() 3", x.mark(), 3);
        DUE.granted(x, "undo()", x.undo());
        same(x, "undone up to the mark", wet);
        DUE.granted(x, "back(2)", x.back(2));
        DUE.good(x, "clock() by the third", x.clock(), 3);
        DUE.granted(x, "back(1) again", x.back(1));
        same(x, "the second stays", wet);
    }

    private static void anotherShore() {
        OneTowel x = Due.told(SHORE);
        x.mark();
        x.wipe(0, 0);
        DUE.is("shore", Due.tell(x, STILL), 3);
        DUE.is("nothing to undo", x.size(11), 0);
        DUE.is("no marks", x.size(12), 0);
        DUE.denied(x, "undo() of another shore", x.undo(), 6);
        DUE.denied(x, "back(0) of another shore", x.back(0), 1);
        same(x, "as told", 40, 9, 98, 9, 9, 0, 0, 0);
        DUE.good(x, "mark()", x.mark(), 0);
    }

    private static void withoutAShore() {
        OneTowel x = new OneTowel();
        DUE.refused(x, "wipe(0, 0) without", x.wipe(0, 0), 1);
        DUE.refused(x, "wring(0) without", x.wring(0), 1);
        DUE.refused(x, "hang(0, 1) without", x.hang(0, 1), 1);
        DUE.refused(x, "hang(0, 0) without", x.hang(0, 0), 1);
        DUE.denied(x, "shake(0) without", x.shake(0), 1);
        DUE.refused(x, "waits(1) without", x.waits(1), 1);
        DUE.refused(x, "waits(0) without", x.waits(0), 1);
        DUE.denied(x, "undo() without", x.undo(), 6);
        DUE.refused(x, "mark() without", x.mark(), 1);
        DUE.denied(x, "back(0) without", x.back(0), 1);
    }
}
