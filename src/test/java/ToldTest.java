/** Promises 56 to 58: who isn't dry, sizes, trouble. */
public final class ToldTest {
    private static final Due DUE = new Due("ToldTest");
    private static final String TEXT = "shore share 11 wipe 2 wring 13, 4 sun 15 wind 16;"
        + "towel t patches 2 holds 20 wet 9;towel s patches 1 holds 30 wet 0;"
        + "bather a plain wet 6 cold 2 want 6 size 3;bather b dog wet 9 cold 1 want 2 size 5;"
        + "bather c small wet 9 cold 3 want 9 size 2;bather d hairy wet 98 cold 3 want 9 size 2;"
        + "wipes a t 0;wrings t;hangs s 3;shakes b;shakes c;seen s 0 3;seen t 1 4;home a 1";

    public static void main(String[] args) {
        led();
        sizes();
        trouble();
        callsThatTellNone();
        DUE.end();
    }

    private static void led() {
        OneTowel none = new OneTowel();
        DUE.nobodyLed(none, 0);
        DUE.nobodyLed(none, -1);
        OneTowel x = Due.told(TEXT);
        DUE.is("led(0)", x.led(0), 1);
        DUE.is("led(1)", x.led(1), 3);
        int[] wrong = {2, 4, -1, Integer.MAX_VALUE, Integer.MIN_VALUE};
        for (int i : wrong) {
            DUE.nobodyLed(x, i);
        }
        DUE.granted(x, "shake(1)", x.shake(1));
        DUE.is("led(0) of a wetter one", x.led(0), 0);
        DUE.is("led(1) of a wetter one", x.led(1), 1);
        DUE.is("led(2) of a wetter one", x.led(2), 2);
        DUE.is("led(3) of a wetter one", x.led(3), 3);
        DUE.nobodyLed(x, 4);
        OneTowel dry = Due.told(Due.SHORE + ";towel t patches 1 holds 1 wet 1;"
            + "bather a plain wet 5 cold 1 want 5 size 1");
        DUE.nobodyLed(dry, 0);
    }

    private static void sizes() {
        OneTowel x = Due.told(TEXT);
        int[] due = {11, 2, 13, 4, 15, 16, 2, 3, 4, 5, 2, 0, 0, 0};
        for (int what = 0; what < due.length; what++) {
            DUE.is("size(" + what + ")", x.size(what), due[what]);
        }
        int[] wrong = {-1, 14, Integer.MAX_VALUE, Integer.MIN_VALUE};
        for (int what : wrong) {
            DUE.is("size(" + what + ")", x.size(what), -1);
        }
        x.waits(1);
        x.waits(1);
        x.mark();
        x.feed(0, 0, 0, 0, 0);
        DUE.is("size(11) of two acts", x.size(11), 2);
        DUE.is("size(12) of a mark", x.size(12), 1);
        DUE.is("size(13) of a feed", x.size(13), 20);
        x.undo();
        DUE.is("size(11) of an undone act", x.size(11), 1);
        OneTowel least = Due.told("shore share 1 wipe 0 wring 0, 0 sun 0 wind 0;towel t patches 1 holds 1 wet 0;"
            + "bather a plain wet 0 cold 0 want 0 size 1");
        int[] few = {1, 0, 0, 0, 0, 0, 1, 1, 1, 0, 0, 0, 0, 0};
        for (int what = 0; what < few.length; what++) {
            DUE.is("least size(" + what + ")", least.size(what), few[what]);
        }
    }

    private static void trouble() {
        OneTowel x = new OneTowel();
        DUE.is("trouble() at first", x.trouble(), 0);
        x.water();
        DUE.is("there is none such", x.trouble(), 1);
        DUE.is("it stays", x.trouble(), 1);
        x.shore(5);
        DUE.is("a number", x.trouble(), 2);
        x.shore(0);
        DUE.is("a fault", x.trouble(), 4);
        DUE.is("its place", x.where(), 0);
        x.undo();
        DUE.is("there is none", x.trouble(), 6);
        DUE.is("no place", x.where(), -1);
        DUE.is("the fault stays", x.fault(), 1);
        Due.tell(x, TEXT);
        DUE.is("it wasn't", x.trouble(), 0);
        x.wring(1);
        DUE.is("not so", x.trouble(), 5);
        x.mark();
        DUE.is("it wasn't", x.trouble(), 0);
        x.mark();
        x.mark();
        x.mark();
        DUE.is("no room", x.trouble(), 3);
        x.clock();
        DUE.is("it wasn't", x.trouble(), 0);
    }

    /** Calls of which no number is told leave the trouble, and the place, as they are. */
    private static void callsThatTellNone() {
        OneTowel x = new OneTowel();
        x.shore(0);
        int fed = 0;
        for (int i = 0; i < 46; i++) {
            fed = x.feed(0, 0, 0, 0, 0);
        }
        DUE.is("a feed too many", fed, -1);
        DUE.is("trouble() behind feeds", x.trouble(), 4);
        DUE.is("where() behind feeds", x.where(), 0);
        DUE.is("size(14)", x.size(14), -1);
        DUE.is("trouble() behind size", x.trouble(), 4);
        DUE.nobodyLed(x, 0);
        DUE.is("trouble() behind led", x.trouble(), 4);
        x.fault();
        DUE.is("trouble() behind fault", x.trouble(), 4);
        x.where();
        DUE.is("where() behind where", x.where(), 0);
        OneTowel y = Due.told(TEXT);
        y.patch(9);
        y.led(0);
        y.size(0);
        y.feed(0, 0, 0, 0, 0);
        DUE.is("trouble() behind good ones", y.trouble(), 1);
    }
}
