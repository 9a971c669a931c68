/** Promises 40 to 45: what was seen. */
public final class SeenTest {
    private static final Due DUE = new Due("SeenTest");
    private static final String CALM = "shore share 50 wipe 0 wring 0, 0 sun 0 wind 0;";
    /** Of two orders, ab leaves 10 and 20 in the patches, ba 20 and 10. */
    private static final String TWO = CALM + "towel t patches 2 holds 99 wet 0;"
        + "bather a plain wet 20 cold 0 want 0 size 1;bather b plain wet 40 cold 0 want 0 size 1";

    public static void main(String[] args) {
        noneSeen();
        someSeen();
        noneFits();
        lookElsewhere();
        placesOfSome();
        allOrders();
        fromTheBeginning();
        shoreUponShore();
        sizesDoNotCount();
        aPatchOf99();
        aPatchOfNothing();
        wrongOnes();
        DUE.end();
    }

    private static void noneSeen() {
        OneTowel x = Due.told(TWO);
        DUE.good(x, "fits()", x.fits(), 2);
        int[][] due = {{0, 1}, {1, 0}};
        for (int i = 0; i < 2; i++) {
            for (int k = 0; k < 2; k++) {
                DUE.good(x, "fit(" + i + ", " + k + ")", x.fit(i, k), due[i][k]);
            }
            DUE.good(x, "could(" + i + ")", x.could(i), 3);
            DUE.good(x, "surely(" + i + ")", x.surely(i), -2);
        }
        DUE.good(x, "look()", x.look(), 0);
        DUE.good(x, "lookMost()", x.lookMost(), 1);
    }

    private static void someSeen() {
        OneTowel x = Due.told(TWO + ";seen t 0 20");
        DUE.good(x, "fits()", x.fits(), 1);
        DUE.good(x, "fit(0, 0)", x.fit(0, 0), 1);
        DUE.good(x, "fit(0, 1)", x.fit(0, 1), 0);
        DUE.refused(x, "fit(1, 0)", x.fit(1, 0), 1);
        DUE.good(x, "could(0)", x.could(0), 2);
        DUE.good(x, "surely(0)", x.surely(0), 1);
        DUE.good(x, "could(1)", x.could(1), 1);
        DUE.good(x, "surely(1)", x.surely(1), 0);
        DUE.good(x, "look()", x.look(), 1);
        DUE.good(x, "lookMost()", x.lookMost(), 1);
        OneTowel all = Due.told(TWO + ";seen t 1 20;seen t 0 10");
        DUE.good(all, "fits() of all seen", all.fits(), 1);
        DUE.good(all, "fit(0, 0) of all seen", all.fit(0, 0), 0);
        DUE.refused(all, "look() of all seen", all.look(), 6);
        DUE.refused(all, "lookMost() of all seen", all.lookMost(), 6);
    }

    private static void noneFits() {
        OneTowel x = Due.told(TWO + ";seen t 0 7");
        DUE.good(x, "fits() of none", x.fits(), 0);
        DUE.refused(x, "fit(0, 0) of none", x.fit(0, 0), 1);
        DUE.good(x, "could(0) of none", x.could(0), 0);
        DUE.good(x, "surely(0) of none", x.surely(0), -2);
        DUE.refused(x, "look() of none", x.look(), 6);
        DUE.refused(x, "lookMost() of none", x.lookMost(), 6);
        OneTowel both = Due.told(TWO + ";seen t 0 20;seen t 1 20");
        DUE.good(both, "fits() of two that don't go together", both.fits(), 0);
    }

    /** The first patch is full from the beginning on and tells nothing. */
    private static void lookElsewhere() {
        String text = CALM + "towel f patches 1 holds 1 wet 1;towel t patches 2 holds 99 wet 0;"
            + "bather a plain wet 20 cold 0 want 0 size 1;bather b plain wet 40 cold 0 want 0 size 1";
        OneTowel x = Due.told(text);
        DUE.good(x, "look() elsewhere", x.look(), 1);
        DUE.good(x, "lookMost() elsewhere", x.lookMost(), 1);
        OneTowel y = Due.told(text + ";seen t 0 20;seen t 1 10");
        DUE.good(y, "look() at what is left", y.look(), 0);
        DUE.good(y, "lookMost() at what is left", y.lookMost(), 1);
        OneTowel z = Due.told(text + ";seen f 0 1");
        DUE.good(z, "look() behind the full one", z.look(), 1);
        DUE.good(z, "fits() of the full one", z.fits(), 2);
    }

    /** Three like ones and one more: with three patches the fourth wipe goes on the least. */
    private static void placesOfSome() {
        String text = CALM + "towel t patches 3 holds 99 wet 0;bather a plain wet 20 cold 0 want 0 size 1;"
            + "bather b plain wet 20 cold 0 want 0 size 1;bather c plain wet 60 cold 0 want 0 size 1";
        OneTowel x = Due.told(text + ";seen t 1 30");
        DUE.good(x, "fits()", x.fits(), 2);
        int[][] due = {{0, 2, 1}, {1, 2, 0}};
        for (int i = 0; i < 2; i++) {
            for (int k = 0; k < 3; k++) {
                DUE.good(x, "fit(" + i + ", " + k + ")", x.fit(i, k), due[i][k]);
            }
        }
        DUE.good(x, "could(0)", x.could(0), 5);
        DUE.good(x, "could(1)", x.could(1), 5);
        DUE.good(x, "could(2)", x.could(2), 2);
        DUE.good(x, "surely(0)", x.surely(0), -2);
        DUE.good(x, "surely(2)", x.surely(2), 1);
        DUE.good(x, "look()", x.look(), 0);
        DUE.good(x, "lookMost()", x.lookMost(), 2);
        OneTowel y = Due.told(text);
        // each patch tells of two in six that c was there, of four that he wasn't
        DUE.good(y, "fits() of none seen", y.fits(), 6);
        DUE.good(y, "look() of none seen", y.look(), 0);
        DUE.good(y, "lookMost() of none seen", y.lookMost(), 4);
        DUE.good(y, "could(1) of none seen", y.could(1), 7);
    }

    private static void allOrders() {
        StringBuilder text = new StringBuilder(CALM).append("towel t patches 1 holds 9 wet 0");
        for (int b = 0; b < 6; b++) {
            text.append(";bather ").append((char) ('a' + b)).append(" plain wet 0 cold 0 want 0 size 1");
        }
        OneTowel x = Due.told(text.toString());
        DUE.good(x, "fits() of six", x.fits(), 720);
        int[] last = {5, 4, 3, 2, 1, 0};
        int[] middle = {2, 5, 4, 3, 1, 0};
        int[] second = {0, 1, 2, 3, 5, 4};
        for (int k = 0; k < 6; k++) {
            DUE.good(x, "fit(0, " + k + ")", x.fit(0, k), k);
            DUE.good(x, "fit(1, " + k + ")", x.fit(1, k), second[k]);
            DUE.good(x, "fit(359, " + k + ")", x.fit(359, k), middle[k]);
            DUE.good(x, "fit(719, " + k + ")", x.fit(719, k), last[k]);
            DUE.good(x, "could(" + k + ")", x.could(k), 63);
        }
        DUE.refused(x, "fit(720, 0)", x.fit(720, 0), 1);
        DUE.good(x, "lookMost() of six", x.lookMost(), 720);
    }

    private static void fromTheBeginning() {
        OneTowel x = Due.told(TWO + ";wipes a t 0;wrings t;seen t 0 20");
        DUE.good(x, "fits() without the plan", x.fits(), 1);
        DUE.good(x, "wipe(1, 1)", x.wipe(1, 1), 20);
        DUE.good(x, "waits(3)", x.waits(3), 3);
        DUE.good(x, "fits() without the acts", x.fits(), 1);
        DUE.good(x, "fit(0, 0) without the acts", x.fit(0, 0), 1);
        OneTowel y = Due.told(TWO);
        DUE.good(y, "wipe(1, 1)", y.wipe(1, 1), 20);
        DUE.good(y, "fits() asked behind an act", y.fits(), 2);
        DUE.good(y, "lookMost() asked behind an act", y.lookMost(), 1);
        DUE.is("another shore", Due.tell(y, TWO + ";seen t 1 10"), 2);
        DUE.good(y, "fits() of the other", y.fits(), 1);
        DUE.good(y, "fit(0, 0) of the other", y.fit(0, 0), 1);
        OneTowel windy = Due.told(TWO.replace("wipe 0", "wipe 1").replace("wind 0", "wind 50") + ";seen t 1 5");
        // ab: 10, then of 40 half is left, of that half goes: 10; ba: 20, of 10 half: 5
        DUE.good(windy, "fits() in the wind", windy.fits(), 1);
        DUE.good(windy, "fit(0, 0) in the wind", windy.fit(0, 0), 1);
    }

    private static void shoreUponShore() {
        DUE.is("could(0) asked first", Due.told(TWO + ";seen t 0 20").could(0), 2);
        DUE.is("surely(0) asked first", Due.told(TWO + ";seen t 0 20").surely(0), 1);
        DUE.is("fit(0, 0) asked first", Due.told(TWO + ";seen t 0 20").fit(0, 0), 1);
        DUE.is("lookMost() asked first", Due.told(TWO + ";seen t 0 20").lookMost(), 1);
        OneTowel x = new OneTowel();
        for (int i = 0; i < 3; i++) {
            Due.tell(x, TWO);
            DUE.good(x, "fits() of all", x.fits(), 2);
            DUE.good(x, "could(0) of all", x.could(0), 3);
            DUE.good(x, "look() of all", x.look(), 0);
            DUE.good(x, "lookMost() of all", x.lookMost(), 1);
            Due.tell(x, TWO + ";seen t 0 20;seen t 1 10");
            DUE.good(x, "fits() of one", x.fits(), 1);
            DUE.good(x, "could(0) of one", x.could(0), 2);
            DUE.good(x, "could(1) of one", x.could(1), 1);
            DUE.good(x, "surely(0) of one", x.surely(0), 1);
            DUE.refused(x, "look() of one", x.look(), 6);
            DUE.refused(x, "lookMost() of one", x.lookMost(), 6);
            Due.tell(x, TWO + ";seen t 0 1");
            DUE.good(x, "fits() of none", x.fits(), 0);
            DUE.good(x, "could(1) of none", x.could(1), 0);
            DUE.good(x, "surely(1) of none", x.surely(1), -2);
        }
    }

    private static void aPatchOfNothing() {
        OneTowel x = new OneTowel();
        for (int i = 0; i < 3; i++) {
            Due.tell(x, CALM + "towel t patches 1 holds 9 wet 0;bather a plain wet 0 cold 0 want 0 size 1");
            DUE.good(x, "look() at nothing", x.look(), 0);
            DUE.good(x, "lookMost() at nothing", x.lookMost(), 1);
        }
    }

    private static void sizesDoNotCount() {
        OneTowel x = Due.told(TWO.replace("size 1;bather b", "size 9;bather b"));
        DUE.good(x, "fits() of sizes", x.fits(), 2);
        DUE.good(x, "fit(0, 0) of sizes", x.fit(0, 0), 0);
        DUE.good(x, "fit(1, 0) of sizes", x.fit(1, 0), 1);
    }

    /** The first patch is full and tells nothing; so does the second, which is wetter than all. */
    private static void aPatchOf99() {
        OneTowel x = Due.told(CALM + "towel t patches 1 holds 99 wet 99;towel u patches 1 holds 1 wet 1;"
            + "bather a plain wet 0 cold 0 want 0 size 1;bather b plain wet 0 cold 0 want 0 size 1");
        for (int i = 0; i < 3; i++) {
            DUE.good(x, "fits() of full ones", x.fits(), 2);
            DUE.good(x, "look() of full ones", x.look(), 0);
            DUE.good(x, "lookMost() of full ones", x.lookMost(), 2);
            Due.tell(x, CALM + "towel t patches 1 holds 99 wet 99;towel u patches 1 holds 1 wet 1;"
                + "bather a plain wet 0 cold 0 want 0 size 1;bather b plain wet 0 cold 0 want 0 size 1");
        }
    }

    private static void wrongOnes() {
        OneTowel x = Due.told(TWO);
        int[] wrong = {-1, 2, 6, Integer.MAX_VALUE, Integer.MIN_VALUE};
        for (int i : wrong) {
            DUE.refused(x, "fit(" + i + ", 0)", x.fit(i, 0), 1);
            DUE.refused(x, "fit(0, " + i + ")", x.fit(0, i), 1);
            DUE.refused(x, "could(" + i + ")", x.could(i), 1);
            DUE.refused(x, "surely(" + i + ")", x.surely(i), 1);
        }
        OneTowel none = new OneTowel();
        DUE.refused(none, "fits() without", none.fits(), 1);
        DUE.refused(none, "fit(0, 0) without", none.fit(0, 0), 1);
        DUE.refused(none, "could(0) without", none.could(0), 1);
        DUE.refused(none, "surely(0) without", none.surely(0), 1);
        DUE.refused(none, "look() without", none.look(), 1);
        DUE.refused(none, "lookMost() without", none.lookMost(), 1);
    }
}
