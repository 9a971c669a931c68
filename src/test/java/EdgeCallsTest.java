/** "An object is used for at most 512 calls": the last of them answers as the first would. */
public final class EdgeCallsTest {
    private static final Due DUE = new Due("EdgeCallsTest");
    private static final int CALLS = 512;
    private static final String ONE = "shore share 50 wipe 9 wring 0, 9 sun 50 wind 0"
        + ";towel t patches 1 holds 99 wet 0;bather a small wet 99 cold 9 want 0 size 1";

    public static void main(String[] args) {
        minutes();
        cold();
        shores();
        actsAndUndos();
        refusals();
        dearOnes();
        DUE.end();
    }

    /** How many calls it takes to tell a text. */
    private static int toldBy(String text) {
        return (text.length() + 19) / 20 + 1;
    }

    /** The most minutes there can be. */
    private static void minutes() {
        OneTowel x = Due.told(ONE);
        int minute = 0;
        for (int calls = toldBy(ONE); calls < CALLS; calls++) {
            minute += 60;
            DUE.is("waits(60)", x.waits(60), minute);
        }
    }

    /** The greatest cold there can be. */
    private static void cold() {
        OneTowel x = Due.told(ONE);
        int waits = CALLS - 1 - toldBy(ONE);
        for (int i = 0; i < waits; i++) {
            x.waits(60);
        }
        DUE.is("cold by the last call", x.bather(0, 2), 18 * 60 * waits);
        OneTowel y = Due.told(ONE);
        for (int i = 0; i < waits; i++) {
            y.waits(60);
        }
        DUE.is("coldest() by the last call", y.coldest(), 18 * 60 * waits + 18 * 9);
    }

    private static void shores() {
        OneTowel x = new OneTowel();
        int calls = 0;
        while (calls + toldBy(ONE) < CALLS) {
            DUE.is("shore once more", Due.tell(x, ONE), 1);
            calls += toldBy(ONE);
        }
        while (calls < CALLS - 1) {
            DUE.is("wipe", x.wipe(0, 0) >= OneTowel.NONE, true);
            calls++;
        }
        DUE.is("size(13) by the last call", x.size(13), 0);
        OneTowel fed = new OneTowel();
        for (int i = 1; i < CALLS; i++) {
            DUE.is("feed", fed.feed(0, 0, 0, 0, 0), i <= 45 ? 20 * i : OneTowel.NONE);
        }
        DUE.is("shore(900) by the last call", fed.shore(900), OneTowel.NONE);
    }

    private static void actsAndUndos() {
        OneTowel x = Due.told(ONE);
        int calls = toldBy(ONE);
        while (calls < CALLS - 2) {
            DUE.is("wipe", x.wipe(0, 0), 49);
            DUE.is("undo", x.undo(), true);
            calls += 2;
        }
        DUE.is("drops at last", x.bather(0, 1), 99);
        OneTowel y = Due.told(ONE);
        for (calls = toldBy(ONE); calls < CALLS - 1; calls++) {
            y.waits(1);
        }
        DUE.is("undo by the last call", y.undo(), true);
    }

    private static void refusals() {
        OneTowel x = new OneTowel();
        for (int calls = 0; calls < CALLS - 1; calls++) {
            DUE.is("water() without a shore", x.water(), OneTowel.NONE);
        }
        DUE.is("trouble() by the last call", x.trouble(), 1);
    }

    /** What is dear is asked anew behind each minute: nothing that is kept between calls grows stale. */
    private static void dearOnes() {
        OneTowel x = Due.told(ONE);
        int calls = toldBy(ONE);
        for (int minute = 1; calls < CALLS - 4; minute++) {
            DUE.is("waits(1)", x.waits(1), minute);
            DUE.is("coldest()", x.coldest(), 18 * minute + 18 * 9);
            DUE.is("share()", x.share(), 50);
            DUE.is("next(3)", x.next(3), 1);
            calls += 4;
        }
        DUE.is("fits() at last", x.fits(), 1);
    }
}
