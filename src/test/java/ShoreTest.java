/** Promises 1 to 5: a new object, the tape, the shore and its faults. */
public final class ShoreTest {
    private static final Due DUE = new Due("ShoreTest");
    private static final String TOWEL = Due.SHORE + ";towel t patches 2 holds 9 wet 0";
    private static final String FULL = TOWEL + ";bather b plain wet 9 cold 1 want 1 size 1";

    public static void main(String[] args) {
        newObject();
        feeding();
        refusedNumbers();
        aShoreStays();
        shoreUponShore();
        rightTexts();
        tokens();
        shoreLine();
        towelLine();
        batherLine();
        homeLine();
        stepLines();
        seenLine();
        names();
        lacks();
        many();
        earlierPlaceFirst();
        everyPrefix();
        nothingBehindTheEnd();
        DUE.end();
    }

    private static void newObject() {
        OneTowel x = new OneTowel();
        DUE.is("NONE", OneTowel.NONE, -1);
        DUE.is("new trouble()", x.trouble(), 0);
        DUE.is("new fault()", x.fault(), 0);
        DUE.is("new where()", x.where(), -1);
        for (int what = 0; what < 14; what++) {
            DUE.is("new size(" + what + ")", x.size(what), 0);
        }
        DUE.refused(x, "new bather(0, 0)", x.bather(0, 0), 1);
        DUE.refused(x, "new towel(0, 0)", x.towel(0, 0), 1);
        DUE.refused(x, "new patch(0)", x.patch(0), 1);
        DUE.refused(x, "new step(0, 0)", x.step(0, 0), 1);
        DUE.refused(x, "new planTime(0)", x.planTime(0), 1);
        DUE.refused(x, "new fits()", x.fits(), 1);
    }

    private static void feeding() {
        OneTowel x = new OneTowel();
        DUE.is("feed", x.feed(0x73686f72, 0x65207368, 0x61726520, 0x35302077, 0x69706520), 20);
        DUE.is("size(13)", x.size(13), 20);
        for (int i = 2; i <= 45; i++) {
            DUE.is("feed " + i, x.feed(-1, 0, 1, Integer.MIN_VALUE, Integer.MAX_VALUE), 20 * i);
        }
        DUE.is("feed 46", x.feed(0, 0, 0, 0, 0), -1);
        DUE.is("size(13) full", x.size(13), 900);
        DUE.is("trouble() isn't told by feed", x.trouble(), 0);
        DUE.refused(x, "shore(900)", x.shore(900), 4);
        DUE.is("fault() of the first number's bytes", x.fault(), 1);
        DUE.is("where() of the first number's bytes", x.where(), 20);
        DUE.is("size(13) emptied", x.size(13), 0);
        DUE.is("feed once more", x.feed(0, 0, 0, 0, 0), 20);
        DUE.is("where() behind feed", x.where(), 20);
        DUE.is("trouble() behind feed", x.trouble(), 4);
    }

    private static void refusedNumbers() {
        OneTowel x = new OneTowel();
        DUE.refused(x, "shore(1) of an empty tape", x.shore(1), 2);
        DUE.is("fault() behind 2", x.fault(), 0);
        Due.put(x, FULL);
        int fed = x.size(13);
        DUE.refused(x, "shore(-1)", x.shore(-1), 2);
        DUE.refused(x, "shore(least)", x.shore(Integer.MIN_VALUE), 2);
        DUE.refused(x, "shore(one more)", x.shore(fed + 1), 2);
        DUE.refused(x, "shore(most)", x.shore(Integer.MAX_VALUE), 2);
        DUE.is("where() behind 2", x.where(), -1);
        DUE.is("the tape stays", x.size(13), fed);
        DUE.good(x, "shore(all)", x.shore(fed), 1);
        DUE.is("the tape is empty", x.size(13), 0);
        DUE.refused(x, "shore(0)", x.shore(0), 4);
        DUE.is("fault() of nothing", x.fault(), 1);
        DUE.is("where() of nothing", x.where(), 0);
        DUE.refused(x, "shore(1)", x.shore(1), 2);
        DUE.is("the fault stays behind 2", x.fault(), 1);
        DUE.is("where() behind 2", x.where(), -1);
        DUE.is("shore again", Due.tell(x, FULL), 1);
        DUE.is("no fault now", x.fault(), 0);
        DUE.is("no place now", x.where(), -1);
    }

    private static void aShoreStays() {
        OneTowel x = Due.told(FULL + ";home b 7;wipes b t 1;seen t 0 3");
        DUE.is("wipe", x.wipe(0, 0), 4);
        DUE.is("mark", x.mark(), 0);
        DUE.is("a faulty one", Due.tell(x, Due.SHORE + ";towel u patches 1 holds 3 wet 3;bather c dog"), -1);
        DUE.is("its fault", x.fault(), 1);
        DUE.is("drops stay", x.bather(0, 1), 5);
        DUE.is("kind stays", x.bather(0, 0), 0);
        DUE.is("home stays", x.bather(0, 5), 7);
        DUE.is("patches stay", x.size(7), 2);
        DUE.is("steps stay", x.size(9), 1);
        DUE.is("seen stays", x.size(10), 1);
        DUE.is("acts stay", x.size(11), 1);
        DUE.is("marks stay", x.size(12), 1);
        DUE.is("minute stays", x.clock(), 1);
        DUE.is("the plan stays", x.planWet(1, 0), 5);
        DUE.is("a new one", Due.tell(x, FULL), 1);
        DUE.is("drops as told", x.bather(0, 1), 9);
        DUE.is("patch as told", x.patch(0), 0);
        DUE.is("no home", x.bather(0, 5), -2);
        DUE.is("minute 0", x.clock(), 0);
        DUE.is("cold 0", x.bather(0, 2), 0);
        DUE.is("no steps", x.size(9), 0);
        DUE.is("none seen", x.size(10), 0);
        DUE.is("nothing to undo", x.size(11), 0);
        DUE.is("no marks", x.size(12), 0);
        DUE.is("nothing lost", x.lost(), 0);
    }

    /** Nothing of an earlier text is left, however many there were, faulty ones among them. */
    private static void shoreUponShore() {
        OneTowel x = new OneTowel();
        String rich = TOWEL + ";towel u patches 3 holds 9 wet 1;bather b plain wet 9 cold 1 want 1 size 1;"
            + "bather c dog wet 9 cold 1 want 1 size 1;home b 3;wrings t;wipes c u 2;seen t 0 4;seen u 2 5";
        for (int i = 0; i < 4; i++) {
            DUE.is("a rich one", Due.tell(x, rich), 2);
            int[] due = {50, 1, 2, 3, 50, 0, 2, 5, 2, 2, 2, 0, 0, 0};
            for (int what = 0; what < due.length; what++) {
                DUE.is("size(" + what + ") of the rich one", x.size(what), due[what]);
            }
            DUE.is("judge() of the rich one", x.judge(), 0);
            DUE.is("its home", x.bather(0, 5), 3);
            DUE.granted(x, "shake(0)", x.shake(0));
            if (i % 2 == 0) {
                DUE.is("a faulty one", Due.tell(x, rich + ";home c 4;home c 4"), -1);
            }
            for (int times = 0; times <= i; times++) {
                DUE.is("a poor one", Due.tell(x, FULL), 1);
            }
            int[] poor = {50, 1, 2, 3, 50, 0, 1, 2, 1, 0, 0, 0, 0, 0};
            for (int what = 0; what < poor.length; what++) {
                DUE.is("size(" + what + ") of the poor one", x.size(what), poor[what]);
            }
            DUE.is("judge() of the poor one", x.judge(), -2);
            DUE.is("no home", x.bather(0, 5), -2);
            DUE.is("not shaken", x.bather(0, 7), 0);
            DUE.is("all orders fit", x.fits(), 1);
        }
    }

    private static void rightTexts() {
        DUE.right(FULL, 1);
        DUE.right("   " + FULL + "   ", 1);
        DUE.right(FULL.replace(" ", "    "), 1);
        DUE.right(FULL.replace(";", " ; "), 1);
        DUE.right("shore share50wipe1wring2,3sun50wind0;towel t patches2holds9wet0;"
            + "bather b plain wet9cold1want1size1", 1);
        DUE.right("shore share 050 wipe 001 wring 002,003 sun 00 wind 0;towel t patches 01 holds 099 wet 99;"
            + "bather b plain wet 099 cold 9 want 099 size 9", 1);
        DUE.right(Due.SHORE + ";bather share plain wet 9 cold 1 want 1 size 1;towel plain patches 2 holds 9 wet 0"
            + ";bather wet dog wet 9 cold 1 want 1 size 1;wipes share plain 1;shakes wet;home share 0", 2);
        DUE.right(Due.SHORE + ";bather abcdefgh small wet 9 cold 1 want 1 size 1;"
            + "towel a patches 2 holds 9 wet 0;wipes abcdefgh a 1", 1);
    }

    private static void tokens() {
        DUE.faulty("", 1, 0);
        DUE.faulty("    ", 1, 4);
        DUE.faulty("Shore", 1, 0);
        DUE.faulty("  sail", 1, 2);
        DUE.faulty(FULL.replace("shore", "chore"), 1, 0);
        DUE.faulty(FULL.replace("shore", "shores"), 1, 0);
        DUE.faulty(FULL.replace("shore", "shor"), 1, 0);
        DUE.faulty(FULL.replace("size", "sizs"), 1, FULL.indexOf("size"));
        DUE.faulty(FULL + ";come b 1", 1, FULL.length() + 1);
        DUE.faulty("7", 1, 0);
        DUE.faulty(";", 1, 0);
        DUE.faulty(FULL + ";", 1, FULL.length() + 1);
        DUE.faulty(FULL + " ; ", 1, FULL.length() + 3);
        DUE.faulty(FULL + ",", 1, FULL.length());
        DUE.faulty(FULL + " home", 1, FULL.length() + 1);
        DUE.faulty(FULL + " 1", 1, FULL.length() + 1);
        DUE.faulty(FULL + "\t", 1, FULL.length());
        DUE.faulty(FULL + "\u00e4", 1, FULL.length());
        DUE.faulty(FULL + "\0", 1, FULL.length());
        DUE.faulty(FULL.replace("share 50", "share 0050"), 1, 12);
        DUE.faulty(FULL.replace("share 50", "share 5 0"), 1, 14);
        DUE.faulty(FULL.replace("bather b", "bather abcdefghi"), 1, FULL.indexOf("bather b") + 7);
        DUE.faulty(FULL + ";shakesshakes b", 1, FULL.length() + 1);
        DUE.faulty(FULL + ";;home b 1", 1, FULL.length() + 1);
    }

    private static void shoreLine() {
        DUE.faulty("shore share 0 wipe", 4, 12);
        DUE.faulty("shore share 51 wipe", 4, 12);
        DUE.right(FULL.replace("share 50", "share 1"), 1);
        DUE.faulty("shore share 50 wipe 10", 4, 20);
        DUE.right(FULL.replace("wipe 1", "wipe 9"), 1);
        DUE.faulty("shore share 50 wipe 1 wring 100", 4, 28);
        DUE.right(FULL.replace("wring 2", "wring 99"), 1);
        DUE.faulty("shore share 50 wipe 1 wring 2, 10", 4, 31);
        DUE.right(FULL.replace(", 3", ", 9"), 1);
        DUE.faulty("shore share 50 wipe 1 wring 2 3", 1, 30);
        DUE.faulty("shore share 50 wipe 1 wring 2; 3", 1, 29);
        DUE.faulty("shore share 50 wipe 1 wring 2, 3 sun 51", 4, 37);
        DUE.faulty("shore share 50 wipe 1 wring 2, 3 sun 50 wind 51", 4, 45);
        DUE.right(FULL.replace("wind 0", "wind 50"), 1);
        DUE.faulty("shore wipe 1", 1, 6);
        DUE.faulty("shore share sun", 1, 12);
        DUE.faulty(FULL + ";shore", 3, FULL.length() + 1);
    }

    private static void towelLine() {
        String begun = Due.SHORE + ";towel ";
        int at = begun.length();
        DUE.faulty(begun, 1, at);
        DUE.faulty(begun + "3", 1, at);
        DUE.faulty(begun + "towel", 1, at);
        DUE.faulty(begun + "t patches 0", 4, at + 10);
        DUE.faulty(begun + "t patches 5", 4, at + 10);
        DUE.faulty(begun + "t patches 4 holds 0", 4, at + 18);
        DUE.faulty(begun + "t patches 4 holds 100", 4, at + 18);
        DUE.faulty(begun + "t patches 4 holds 9 wet 10", 4, at + 24);
        DUE.faulty(begun + "t patches 4 wet", 1, at + 12);
        DUE.faulty(TOWEL + ";towel t", 3, TOWEL.length() + 7);
    }

    private static void batherLine() {
        String begun = TOWEL + ";bather b ";
        int at = begun.length();
        DUE.faulty(begun + "odd", 1, at);
        DUE.faulty(begun + "4", 1, at);
        DUE.faulty(begun + "small wet 100", 4, at + 10);
        DUE.faulty(begun + "hairy wet 9 cold 10", 4, at + 17);
        DUE.faulty(begun + "plain wet 9 cold 9 want 100", 4, at + 24);
        DUE.faulty(begun + "dog wet 9 cold 9 want 9 size 0", 4, at + 29);
        DUE.faulty(begun + "dog wet 9 cold 9 want 9 size 10", 4, at + 29);
        DUE.faulty(begun + "dog wet 9 cold 9 size", 1, at + 17);
        DUE.right(begun + "dog wet 0 cold 0 want 0 size 1", 1);
        DUE.faulty(TOWEL + ";bather seen", 1, at - 2);
        DUE.faulty(TOWEL + ";bather t", 3, at - 2);
        DUE.faulty(FULL + ";bather b", 3, FULL.length() + 8);
    }

    private static void homeLine() {
        int at = FULL.length() + 6;
        DUE.faulty(FULL + ";home t", 2, at);
        DUE.faulty(FULL + ";home c", 2, at);
        DUE.faulty(FULL + ";home home", 1, at);
        DUE.faulty(FULL + ";home b 241", 4, at + 2);
        DUE.faulty(FULL + ";home b b", 1, at + 2);
        DUE.faulty(FULL + ";home b 999;home b", 4, at + 2);
        DUE.right(FULL + ";home b 240", 1);
        DUE.faulty(FULL + ";home b 0;home b", 3, at + 9);
        DUE.faulty(FULL + ";home b 0;home b 241", 3, at + 9);
    }

    private static void stepLines() {
        int at = FULL.length() + 1;
        DUE.faulty(FULL + ";wipes t", 2, at + 6);
        DUE.faulty(FULL + ";wipes b b", 2, at + 8);
        DUE.faulty(FULL + ";wipes b u", 2, at + 8);
        DUE.faulty(FULL + ";wipes b t 2", 4, at + 10);
        DUE.faulty(FULL + ";wipes b t", 1, at + 9);
        DUE.faulty(FULL + ";wrings b", 2, at + 7);
        DUE.faulty(FULL + ";wrings 0", 1, at + 7);
        DUE.faulty(FULL + ";hangs b", 2, at + 6);
        DUE.faulty(FULL + ";hangs t 0", 4, at + 8);
        DUE.faulty(FULL + ";hangs t 61", 4, at + 8);
        DUE.right(FULL + ";hangs t 1;hangs t 60", 1);
        DUE.faulty(FULL + ";shakes t", 2, at + 7);
        DUE.faulty(FULL + ";shakes shore", 1, at + 7);
    }

    private static void seenLine() {
        int at = FULL.length() + 6;
        DUE.faulty(FULL + ";seen b", 2, at);
        DUE.faulty(FULL + ";seen t 2", 4, at + 2);
        DUE.faulty(FULL + ";seen t 0 100", 4, at + 4);
        DUE.right(FULL + ";seen t 0 99;seen t 1 0", 1);
        DUE.faulty(FULL + ";seen t 1 0;seen t 1", 3, at + 13);
        DUE.faulty(FULL + ";seen t 0 0;seen t 1 0;seen t 1 1", 3, at + 24);
    }

    private static void names() {
        String[] reserved = {"shore", "towel", "bather", "home", "wipes", "wrings", "hangs", "shakes", "seen"};
        for (String word : reserved) {
            DUE.faulty(TOWEL + ";bather " + word, 1, TOWEL.length() + 8);
            DUE.faulty(FULL + ";home " + word, 1, FULL.length() + 6);
        }
        String[] free = {"share", "wipe", "wring", "sun", "wind", "patches", "holds", "wet", "plain", "hairy",
            "dog", "small", "cold", "want", "size", "t", "bb", "a", "shor", "shores"};
        for (int i = 0; i < free.length; i++) {
            String name = free[i].equals("t") ? "tt" : free[i];
            DUE.right(TOWEL + ";bather " + name + " plain wet 9 cold 1 want 1 size 1;shakes " + name, 1);
        }
        DUE.faulty(Due.SHORE + ";wipes b", 2, Due.SHORE.length() + 7);
    }

    private static void lacks() {
        String[] words = {"towel", "bather", "home", "wipes", "wrings", "hangs", "shakes", "seen"};
        for (String word : words) {
            DUE.faulty("  " + word, 6, 2);
        }
        DUE.faulty(Due.SHORE, 6, Due.SHORE.length());
        DUE.faulty(TOWEL, 6, TOWEL.length());
        DUE.faulty(TOWEL + "  ", 6, TOWEL.length() + 2);
        String bather = Due.SHORE + ";bather b plain wet 9 cold 1 want 1 size 1";
        DUE.faulty(bather, 6, bather.length());
    }

    private static void many() {
        StringBuilder bathers = new StringBuilder(TOWEL);
        for (int i = 0; i < 6; i++) {
            bathers.append(";bather ").append((char) ('a' + i)).append(" plain wet 1 cold 1 want 1 size 1");
        }
        DUE.right(bathers.toString(), 6);
        DUE.faulty(bathers + ";bather", 5, bathers.length() + 1);
        DUE.faulty(bathers + ";bather a", 5, bathers.length() + 1);
        String three = TOWEL + ";towel u patches 1 holds 1 wet 1;towel v patches 1 holds 1 wet 1";
        DUE.faulty(three + ";towel", 5, three.length() + 1);
        DUE.faulty(TOWEL + ";towel u patches 4 holds 1 wet 1;towel v patches 1", 5, TOWEL.length() + 49);
        DUE.faulty(TOWEL + ";towel u patches 3 holds 1 wet 1;towel v patches 2", 5, TOWEL.length() + 49);
        DUE.faulty(TOWEL + ";towel u patches 3 holds 1 wet 1;towel v patches 5", 4, TOWEL.length() + 49);
        DUE.right(FULL + ";towel u patches 4 holds 1 wet 1", 1);
        StringBuilder steps = new StringBuilder(FULL);
        for (int i = 0; i < 3; i++) {
            steps.append(";shakes b;wipes b t 0;wrings t;hangs t 1");
        }
        DUE.right(steps.toString(), 1);
        String[] sorts = {"shakes", "wipes", "wrings", "hangs"};
        for (String sort : sorts) {
            DUE.faulty(steps + ";" + sort, 5, steps.length() + 1);
        }
        DUE.right(steps + ";home b 3;seen t 0 1", 1);
        String six = FULL + ";towel u patches 4 holds 1 wet 1;seen t 0 1;seen t 1 1;seen u 0 1;seen u 1 1;seen u 2 1"
            + ";seen u 3 1";
        DUE.right(six, 1);
        DUE.faulty(six + ";seen u 3", 5, six.length() + 1);
    }

    private static void earlierPlaceFirst() {
        DUE.faulty("towel T", 6, 0);
        DUE.faulty(Due.SHORE.replace("share 50", "share 99") + ";;", 4, 12);
        DUE.faulty(FULL + ";home c 999", 2, FULL.length() + 6);
        DUE.faulty(FULL + ";seen t 9 ?", 4, FULL.length() + 8);
        DUE.faulty(FULL + "?;seen t 9", 1, FULL.length());
    }

    private static void nothingBehindTheEnd() {
        String text = FULL + ";bather bb plain wet 9 cold 1 want 1 size 1;shakes bb";
        OneTowel x = new OneTowel();
        Due.put(x, text);
        DUE.is("shore of all", x.shore(text.length()), 2);
        DUE.is("bb shakes", x.step(0, 1), 1);
        Due.put(x, text);
        DUE.is("shore of all but a letter", x.shore(text.length() - 1), 2);
        DUE.is("b shakes", x.step(0, 1), 0);
    }

    /** Of each beginning of a right text: it is right only if it is whole lines with a towel and a bather. */
    private static void everyPrefix() {
        String text = FULL + ";home b 1;wipes b t 0;wrings t;hangs t 1;shakes b;seen t 0 1";
        for (int n = 0; n < text.length(); n++) {
            OneTowel x = new OneTowel();
            Due.put(x, text);
            int bathers = x.shore(n);
            boolean endsLine = n >= FULL.length() && text.charAt(n) == ';';
            DUE.is("shore(" + n + ")", bathers, endsLine ? 1 : -1);
            DUE.is("trouble() of shore(" + n + ")", x.trouble(), endsLine ? 0 : 4);
        }
    }
}
