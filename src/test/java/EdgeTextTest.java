import java.util.Arrays;
import java.util.function.ToIntFunction;

/** The edges that term I and promises 2 to 5 name: the tape, tokens, wholes, names, lines, faults. */
public final class EdgeTextTest {
    private static final Due DUE = new Due("EdgeTextTest");
    private static final int FORM = 1;
    private static final int NOT_TOLD = 2;
    private static final int AGAIN = 3;
    private static final int BOUNDS = 4;
    private static final int MANY = 5;
    private static final int LACKS = 6;

    private static final String TOWEL = ";towel t patches 2 holds 9 wet 0";
    private static final String BATHER = ";bather b plain wet 9 cold 1 want 1 size 1";
    private static final String FULL = Due.SHORE + TOWEL + BATHER;

    public static void main(String[] args) {
        tapeOf900Bytes();
        bytesOfANumber();
        textOf900Bytes();
        numbersOfShore();
        faultOfTheLatestShore();
        bytesOfNoToken();
        wordsOfEightLetters();
        wholesOfThreeDigits();
        wholesOfTheShore();
        wholesOfATowel();
        wholesOfABather();
        wholesOfSteps();
        wholesOfTheSeen();
        threeTowels();
        sixPatches();
        sixBathers();
        twelveSteps();
        sixSeen();
        onceEach();
        namesToldAheadOfUse();
        linesAheadOfTheShore();
        theEnd();
        ofOnePlaceTheLeastNumber();
        DUE.end();
    }

    // ---- the tape

    /** "THE TAPE has 900 bytes", "NONE, and none comes, if there would be more than 900". */
    private static void tapeOf900Bytes() {
        OneTowel x = new OneTowel();
        DUE.is("an empty tape", x.size(13), 0);
        for (int bytes = 20; bytes <= 900; bytes += 20) {
            DUE.is("feed up to " + bytes, x.feed(0x20202020, 0x20202020, 0x20202020, 0x20202020, 0x20202020), bytes);
        }
        DUE.is("a feed above 900", x.feed(0x3f3f3f3f, 0, 0, 0, 0), OneTowel.NONE);
        DUE.is("a full tape", x.size(13), 900);
        DUE.is("one more feed above 900", x.feed(0, 0, 0, 0, 0), OneTowel.NONE);
        // had a byte of the two come, it would be a fault ahead of the end
        DUE.refused(x, "shore(900) of blanks", x.shore(900), 4);
        DUE.is("where() of blanks", x.where(), 900);
        DUE.is("an empty tape again", x.feed(0, 0, 0, 0, 0), 20);
    }

    /** "Twenty bytes come ..., of each number the highest first": one of them is no blank. */
    private static void bytesOfANumber() {
        for (int at = 0; at < 20; at++) {
            for (int code : new int[] {0, 127, 128, 255}) {
                int[] numbers = new int[5];
                for (int i = 0; i < 20; i++) {
                    numbers[i / 4] = numbers[i / 4] << 8 | (i == at ? code : ' ');
                }
                OneTowel x = new OneTowel();
                DUE.is("feed", x.feed(numbers[0], numbers[1], numbers[2], numbers[3], numbers[4]), 20);
                DUE.refused(x, "shore(20)", x.shore(20), 4);
                DUE.is("place of byte " + code, x.where(), at);
            }
        }
    }

    /** "The first n bytes of THE TAPE": all of a full one, and some bytes less. */
    private static void textOf900Bytes() {
        StringBuilder text = new StringBuilder(FULL);
        while (text.length() < 889) {
            text.append(' ');
        }
        text.append(";home b 240");
        DUE.is("bytes of the text", text.length(), 900);
        int[] cuts = {900, 899, 898};
        int[] homes = {240, 24, 2};
        for (int i = 0; i < cuts.length; i++) {
            OneTowel x = new OneTowel();
            Due.put(x, text.toString());
            DUE.good(x, "shore(" + cuts[i] + ")", x.shore(cuts[i]), 1);
            DUE.good(x, "home of " + cuts[i] + " bytes", x.bather(0, 5), homes[i]);
            DUE.is("the tape is empty, all of it", x.size(13), 0);
        }
        // behind the ";" the end; "h", "ho" and "hom" begin no line; then the end again
        int[] places = {890, 890, 890, 890, 894, 895, 896, 897};
        for (int i = 0; i < places.length; i++) {
            OneTowel x = new OneTowel();
            Due.put(x, text.toString());
            DUE.refused(x, "shore(" + (890 + i) + ")", x.shore(890 + i), 4);
            DUE.is("fault() of " + (890 + i), x.fault(), FORM);
            DUE.is("where() of " + (890 + i), x.where(), places[i]);
        }
    }

    /** Just below the least and just above the greatest n, with an empty tape, a told and a full one. */
    private static void numbersOfShore() {
        int[] feeds = {0, 1, 45};
        for (int many : feeds) {
            int[] wrong = {-1, Integer.MIN_VALUE, 20 * many + 1, Integer.MAX_VALUE};
            for (int n : wrong) {
                OneTowel x = new OneTowel();
                for (int i = 0; i < many; i++) {
                    x.feed(0, 0, 0, 0, 0);
                }
                String call = "shore(" + n + ") of " + 20 * many + " bytes";
                DUE.refused(x, call, x.shore(n), 2);
                DUE.is("fault() behind " + call, x.fault(), 0);
                DUE.is("where() behind " + call, x.where(), OneTowel.NONE);
                DUE.is("the tape behind " + call, x.size(13), 20 * many);
            }
            OneTowel least = new OneTowel();
            for (int i = 0; i < many; i++) {
                least.feed(0, 0, 0, 0, 0);
            }
            DUE.refused(least, "shore(0) of " + 20 * many + " bytes", least.shore(0), 4);
            DUE.is("place of the end of nothing", least.where(), 0);
            DUE.is("the tape is empty behind a fault", least.size(13), 0);
        }
    }

    /** "The FAULT of the latest shore() not refused by 2; 0 without one"; its place only for the latest call. */
    private static void faultOfTheLatestShore() {
        OneTowel x = new OneTowel();
        DUE.refused(x, "shore(-1) first", x.shore(-1), 2);
        DUE.is("fault() without one", x.fault(), 0);
        DUE.is("a faulty one", Due.tell(x, "shore share 51"), OneTowel.NONE);
        DUE.is("fault()", x.fault(), BOUNDS);
        DUE.is("where()", x.where(), 12);
        DUE.is("where() again", x.where(), 12);
        DUE.refused(x, "shore(1)", x.shore(1), 2);
        DUE.is("fault() stays by 2", x.fault(), BOUNDS);
        DUE.is("where() by 2", x.where(), OneTowel.NONE);
        DUE.is("another faulty one", Due.tell(x, "towel"), OneTowel.NONE);
        DUE.is("fault() of the other", x.fault(), LACKS);
        DUE.is("where() of the other", x.where(), 0);
        DUE.refused(x, "clock()", x.clock(), 1);
        DUE.is("where() behind another refused call", x.where(), OneTowel.NONE);
        DUE.is("fault() behind another refused call", x.fault(), LACKS);
        DUE.is("a right one", Due.tell(x, FULL), 1);
        DUE.is("fault() of a right one", x.fault(), 0);
        DUE.is("where() of a right one", x.where(), OneTowel.NONE);
    }

    // ---- tokens

    /** "the first byte that begins no TOKEN": each of 256 behind a name, and behind a whole. */
    private static void bytesOfNoToken() {
        String name = Due.SHORE + TOWEL + ";bather b";
        String behind = "plain wet 9 cold 1 want 1 size 1";
        for (int code = 0; code < 256; code++) {
            char c = (char) code;
            boolean letter = code >= 97 && code <= 122;
            boolean digit = code >= 48 && code <= 57;
            if (letter || code == 32) {
                DUE.right(name + c + " " + behind, 1);
            } else {
                DUE.faulty(name + c + " " + behind, FORM, name.length());
            }
            // the size is 1: a digit behind it makes it too great, all else but a blank stands for itself
            if (digit) {
                DUE.faulty(FULL + c, BOUNDS, FULL.length() - 1);
            } else if (code == 32) {
                DUE.right(FULL + c, 1);
            } else if (c == ';') {
                DUE.faulty(FULL + c, FORM, FULL.length() + 1);
            } else {
                DUE.faulty(FULL + c, FORM, FULL.length());
            }
        }
        // "blanks part TOKENS and mean nothing else": none, one, and many, but not within a token
        DUE.right(FULL.replace(" 2, 3", "2,3").replace("share 50", "share50"), 1);
        DUE.right("  " + FULL.replace(";", " ; ").replace(",", "   ,"), 1);
        DUE.faulty(FULL.replace("share 50", "sh are 50"), FORM, 6);
        DUE.faulty(FULL.replace("share 50", "share 5 0"), FORM, 14);
    }

    /** "WORDS of 1 to 8 small letters that stand together". */
    private static void wordsOfEightLetters() {
        String[] names = {"a", "z", "abcdefgh", "zzzzzzzz", "shoreshe"};
        for (String name : names) {
            DUE.right(Due.SHORE + TOWEL + ";bather " + name + " plain wet 9 cold 1 want 1 size 1;shakes " + name, 1);
        }
        String begun = Due.SHORE + TOWEL + ";bather ";
        DUE.faulty(begun + "abcdefghi plain", FORM, begun.length());
        DUE.faulty(begun + "abcdefghabcdefgh plain", FORM, begun.length());
        DUE.faulty(begun, FORM, begun.length());
        DUE.faulty(begun + ";", FORM, begun.length());
        // eight letters are told apart by the last, one letter by itself, a shorter name from a longer one
        OneTowel x = Due.told(Due.SHORE + TOWEL + ";bather abcdefgh dog wet 9 cold 1 want 1 size 1"
            + ";bather abcdefgi dog wet 9 cold 1 want 1 size 1;bather abcdefg dog wet 9 cold 1 want 1 size 1"
            + ";bather a dog wet 9 cold 1 want 1 size 1;shakes a;shakes abcdefg;shakes abcdefgi;shakes abcdefgh");
        for (int i = 0; i < 4; i++) {
            DUE.good(x, "who shakes as " + i, x.step(i, 1), 3 - i);
        }
    }

    /** "WHOLES of 1 to 3 digits". */
    private static void wholesOfThreeDigits() {
        String[] zeros = {"0", "00", "000"};
        for (String zero : zeros) {
            DUE.is("home " + zero, Due.told(FULL + ";home b " + zero).bather(0, 5), 0);
        }
        DUE.is("home 007", Due.told(FULL + ";home b 007").bather(0, 5), 7);
        DUE.is("home 240", Due.told(FULL + ";home b 240").bather(0, 5), 240);
        DUE.faulty(FULL + ";home b 999", BOUNDS, FULL.length() + 8);
        DUE.faulty(FULL + ";home b 0000", FORM, FULL.length() + 8);
        DUE.faulty(FULL + ";home b 1000", FORM, FULL.length() + 8);
        DUE.faulty(FULL + ";home b 4294967296", FORM, FULL.length() + 8);
        DUE.faulty(FULL + ";home b -1", FORM, FULL.length() + 8);
        DUE.faulty(FULL + ";home b ", FORM, FULL.length() + 8);
    }

    // ---- wholes and their bounds

    /** A text with # for the whole: its least and greatest are taken, those beside them are a fault at it. */
    private static void bounds(String text, int low, int high, ToIntFunction<OneTowel> told) {
        int place = text.indexOf('#');
        String begun = text.substring(0, place);
        int[] taken = {low, high, (low + high) / 2};
        for (int value : taken) {
            String whole = text.replace("#", String.valueOf(value));
            OneTowel x = new OneTowel();
            DUE.good(x, "shore of \"" + whole + "\"", Due.tell(x, whole), 1);
            DUE.is("what \"" + whole + "\" tells", told.applyAsInt(x), value);
        }
        if (low > 0) {
            DUE.faulty(text.replace("#", String.valueOf(low - 1)), BOUNDS, place);
        }
        DUE.faulty(text.replace("#", String.valueOf(high + 1)), BOUNDS, place);
        DUE.faulty(text.replace("#", "999"), BOUNDS, place);
        DUE.faulty(text.replace("#", "0001"), FORM, place);
        DUE.faulty(text.replace("#", "one"), FORM, place);
        DUE.faulty(text.replace("#", ","), FORM, place);
        DUE.faulty(begun, FORM, place);
    }

    private static void wholesOfTheShore() {
        String[] texts = {
            "shore share # wipe 1 wring 2, 3 sun 4 wind 5", "shore share 1 wipe # wring 2, 3 sun 4 wind 5",
            "shore share 1 wipe 1 wring #, 3 sun 4 wind 5", "shore share 1 wipe 1 wring 2, # sun 4 wind 5",
            "shore share 1 wipe 1 wring 2, 3 sun # wind 5", "shore share 1 wipe 1 wring 2, 3 sun 4 wind #"};
        int[][] bounds = {{1, 50}, {0, 9}, {0, 99}, {0, 9}, {0, 50}, {0, 50}};
        for (int i = 0; i < texts.length; i++) {
            int what = i;
            bounds(texts[i] + TOWEL + BATHER, bounds[i][0], bounds[i][1], x -> x.size(what));
        }
    }

    private static void wholesOfATowel() {
        String begun = Due.SHORE + ";towel t ";
        bounds(begun + "patches # holds 9 wet 3" + BATHER, 1, 4, x -> x.towel(0, 0));
        bounds(begun + "patches # holds 9 wet 3" + BATHER, 1, 4, x -> x.size(7));
        bounds(begun + "patches 1 holds # wet 1" + BATHER, 1, 99, x -> x.towel(0, 1));
        // "0 up to that": what it holds
        bounds(begun + "patches 1 holds 1 wet #" + BATHER, 0, 1, x -> x.patch(0));
        bounds(begun + "patches 4 holds 50 wet #" + BATHER, 0, 50, x -> x.patch(3));
        bounds(begun + "patches 1 holds 99 wet #" + BATHER, 0, 99, x -> x.patch(0));
    }

    private static void wholesOfABather() {
        String begun = Due.SHORE + TOWEL + ";bather b small ";
        bounds(begun + "wet # cold 1 want 1 size 1", 0, 99, x -> x.bather(0, 1));
        bounds(begun + "wet 9 cold 1 want # size 1", 0, 99, x -> x.bather(0, 3));
        bounds(begun + "wet 9 cold 1 want 1 size #", 1, 9, x -> x.bather(0, 4));
        bounds(Due.SHORE + TOWEL + ";bather b plain wet 9 cold # want 1 size 1", 0, 9,
            x -> x.waits(1) * x.bather(0, 2));
        bounds(FULL + ";home b #", 0, 240, x -> x.bather(0, 5));
        String[] kinds = {"plain", "hairy", "dog", "small"};
        for (int kind = 0; kind < kinds.length; kind++) {
            OneTowel x = Due.told(Due.SHORE + TOWEL + BATHER.replace("plain", kinds[kind]));
            DUE.good(x, "kind " + kinds[kind], x.bather(0, 0), kind);
        }
        String[] no = {"plai", "plains", "hair", "dogs", "do", "smal", "bather", "b", "0", ","};
        for (String kind : no) {
            int place = FULL.indexOf("plain");
            DUE.faulty(FULL.replace("plain", kind), FORM, place);
        }
    }

    private static void wholesOfSteps() {
        bounds(FULL + ";wipes b t #", 0, 1, x -> x.step(0, 2));
        String four = FULL + ";towel u patches 4 holds 9 wet 0";
        bounds(four + ";wipes b u #", 0, 3, x -> x.step(0, 2) - 2);
        bounds(four + ";wipes b t #", 0, 1, x -> x.step(0, 2));
        bounds(FULL.replace("patches 2", "patches 1") + ";wipes b t #", 0, 0, x -> x.step(0, 2));
        bounds(FULL + ";hangs t #", 1, 60, x -> x.step(0, 3));
    }

    private static void wholesOfTheSeen() {
        bounds(FULL.replace("wet 9", "wet 0") + ";seen t # 0", 0, 1, x -> 1 - x.look());
        // the patches stay as they are told, so just the whole that tells them fits
        int[] drops = {0, 98, 99};
        for (int wet : drops) {
            String full = Due.SHORE + ";towel t patches 1 holds 99 wet " + wet
                + ";bather b plain wet 0 cold 1 want 1 size 1;seen t 0 ";
            for (int seen = 0; seen < 100; seen++) {
                DUE.is("fits of " + wet + " seen as " + seen, Due.told(full + seen).fits(), seen == wet ? 1 : 0);
            }
            DUE.faulty(full + "100", BOUNDS, full.length());
        }
    }

    // ---- how many of a sort

    private static String towels(int... patches) {
        StringBuilder text = new StringBuilder(Due.SHORE);
        for (int i = 0; i < patches.length; i++) {
            text.append(";towel ").append((char) ('t' + i)).append(" patches ").append(patches[i])
                .append(" holds 9 wet 1");
        }
        return text.toString();
    }

    private static String bathers(String text, int many) {
        StringBuilder all = new StringBuilder(text);
        for (int i = 0; i < many; i++) {
            all.append(";bather ").append((char) ('a' + i)).append(" dog wet ").append(i)
                .append(" cold 1 want 1 size 1");
        }
        return all.toString();
    }

    /** "up to 3": the fourth is MANY at its first word, whatever follows it. */
    private static void threeTowels() {
        for (int many = 1; many <= 3; many++) {
            int[] patches = new int[many];
            Arrays.fill(patches, 1);
            OneTowel x = Due.told(bathers(towels(patches), 1));
            DUE.is("size(6) of " + many, x.size(6), many);
            DUE.good(x, "the last towel of " + many, x.towel(many - 1, 2), many - 1);
            DUE.refused(x, "one towel more than " + many, x.towel(many, 0), 1);
        }
        String three = towels(1, 1, 1);
        String[] rests = {"", " z patches 1 holds 9 wet 1", " t", " 9", " towel", " z patches 9"};
        for (String rest : rests) {
            DUE.faulty(three + ";towel" + rest, MANY, three.length() + 1);
        }
    }

    /** "6 patches in all": one more is MANY at its whole, out of bounds is BOUNDS. */
    private static void sixPatches() {
        int[][] right = {{2, 4}, {4, 2}, {3, 3}, {1, 1, 4}, {2, 2, 2}, {4, 1, 1}};
        for (int[] patches : right) {
            OneTowel x = Due.told(bathers(towels(patches), 1));
            DUE.is("size(7) of six", x.size(7), 6);
            DUE.good(x, "patch(5)", x.patch(5), 1);
            DUE.good(x, "towelOf(5)", x.towelOf(5), patches.length - 1);
            DUE.refused(x, "patch(6)", x.patch(6), 1);
        }
        int[][] begun = {{4}, {3}, {4, 1}, {3, 2}, {1, 1}, {4, 2}, {3, 3}};
        int[] room = {2, 3, 1, 1, 4, 0, 0};
        for (int i = 0; i < begun.length; i++) {
            String text = towels(begun[i]) + ";towel z patches ";
            for (int more = 0; more <= 6; more++) {
                if (more < 1 || more > 4) {
                    DUE.faulty(text + more, BOUNDS, text.length());
                } else if (more > room[i]) {
                    DUE.faulty(text + more, MANY, text.length());
                } else {
                    DUE.right(bathers(text + more + " holds 9 wet 1", 1), 1);
                }
            }
        }
    }

    /** "up to 6". */
    private static void sixBathers() {
        for (int many = 1; many <= 6; many++) {
            OneTowel x = new OneTowel();
            DUE.good(x, "shore of " + many, Due.tell(x, bathers(towels(1), many)), many);
            DUE.is("size(8) of " + many, x.size(8), many);
            DUE.good(x, "the last bather of " + many, x.bather(many - 1, 1), many - 1);
            DUE.refused(x, "one bather more than " + many, x.bather(many, 0), 1);
        }
        String six = bathers(towels(1), 6);
        String[] rests = {"", " z dog wet 1 cold 1 want 1 size 1", " a", " 9", " bather"};
        for (String rest : rests) {
            DUE.faulty(six + ";bather" + rest, MANY, six.length() + 1);
        }
        // each of six has a home, and none of them another one
        StringBuilder homes = new StringBuilder(six);
        for (int i = 0; i < 6; i++) {
            homes.append(";home ").append((char) ('a' + i)).append(' ').append(i);
        }
        OneTowel x = Due.told(homes.toString());
        for (int i = 0; i < 6; i++) {
            DUE.good(x, "home of " + i, x.bather(i, 5), i);
            DUE.faulty(homes + ";home " + (char) ('a' + i) + " 7", AGAIN, homes.length() + 6);
        }
    }

    /** "STEPS of the PLAN, up to 12 of all": the thirteenth of any sort, behind twelve of any sort. */
    private static void twelveSteps() {
        String[] steps = {";wipes b t 1", ";wrings t", ";hangs t 60", ";shakes b"};
        for (int sort = 0; sort < steps.length; sort++) {
            StringBuilder text = new StringBuilder(FULL);
            for (int many = 0; many <= 12; many++) {
                OneTowel x = Due.told(text.toString());
                DUE.is("size(9) of " + many, x.size(9), many);
                DUE.refused(x, "step(" + many + ", 0)", x.step(many, 0), 1);
                if (many > 0) {
                    DUE.good(x, "the last of " + many, x.step(many - 1, 0), sort);
                }
                if (many < 12) {
                    text.append(steps[sort]);
                }
            }
            for (String more : steps) {
                DUE.faulty(text + more, MANY, text.length() + 1);
                DUE.faulty(text + more.substring(0, more.indexOf(' ')), MANY, text.length() + 1);
            }
            DUE.right(text + ";home b 1;seen t 0 1;towel u patches 1 holds 1 wet 1", 1);
        }
    }

    /** "(one of its patches, once; 0 .. 99; up to 6)". */
    private static void sixSeen() {
        StringBuilder text = new StringBuilder(bathers(towels(2, 2, 2), 1));
        for (int p = 0; p < 6; p++) {
            DUE.is("size(10) of " + p, Due.told(text.toString()).size(10), p);
            String line = ";seen " + (char) ('t' + p / 2) + " " + p % 2;
            text.append(line).append(" 7");
            if (p < 5) {
                DUE.faulty(text + line, AGAIN, text.length() + 8);
                DUE.faulty(text + line + " 100", AGAIN, text.length() + 8);
            } else {
                DUE.faulty(text + line, MANY, text.length() + 1);
            }
        }
        DUE.is("size(10) of 6", Due.told(text.toString()).size(10), 6);
        DUE.faulty(text + ";seen", MANY, text.length() + 1);
        DUE.faulty(text + ";seen z 9 999", MANY, text.length() + 1);
        DUE.right(text + ";home a 1;shakes a", 1);
    }

    // ---- names and places

    /** "a NAME told again", whatever it was told for; "a second shore". */
    private static void onceEach() {
        int end = FULL.length();
        DUE.faulty(FULL + ";towel t patches 1", AGAIN, end + 7);
        DUE.faulty(FULL + ";towel b patches 1", AGAIN, end + 7);
        DUE.faulty(FULL + ";bather b plain", AGAIN, end + 8);
        DUE.faulty(FULL + ";bather t plain", AGAIN, end + 8);
        DUE.faulty(FULL + ";home b 1;home b 1", AGAIN, end + 15);
        DUE.faulty(FULL + ";home b 1;home b", AGAIN, end + 15);
        DUE.faulty(FULL + ";seen t 1 1;seen t 1 1", AGAIN, end + 19);
        DUE.faulty(FULL + ";shore", AGAIN, end + 1);
        DUE.faulty(FULL + ";" + Due.SHORE, AGAIN, end + 1);
        DUE.faulty(Due.SHORE + ";shore", AGAIN, Due.SHORE.length() + 1);
        DUE.right(FULL + ";home b 1;seen t 1 1;seen t 0 1", 1);
    }

    /** "ahead of its use": a name that isn't told yet, or never, or of the other sort. */
    private static void namesToldAheadOfUse() {
        String[] ofBathers = {"home #", "wipes #", "shakes #"};
        String[] ofTowels = {"wrings #", "hangs #", "seen #", "wipes b #"};
        for (String line : ofBathers) {
            int place = line.indexOf('#');
            DUE.faulty(FULL + ";" + line.replace("#", "t"), NOT_TOLD, FULL.length() + 1 + place);
            DUE.faulty(FULL + ";" + line.replace("#", "bb"), NOT_TOLD, FULL.length() + 1 + place);
            DUE.faulty(Due.SHORE + ";" + line.replace("#", "b"), NOT_TOLD, Due.SHORE.length() + 1 + place);
            reserved(line, place);
        }
        for (String line : ofTowels) {
            int place = line.indexOf('#');
            DUE.faulty(FULL + ";" + line.replace("#", "b"), NOT_TOLD, FULL.length() + 1 + place);
            DUE.faulty(FULL + ";" + line.replace("#", "tt"), NOT_TOLD, FULL.length() + 1 + place);
            reserved(line, place);
        }
        // a line that is faulty behind its name has told nothing that counts
        DUE.right(Due.SHORE + BATHER + ";home b 1" + TOWEL + ";wipes b t 1", 1);
        String early = Due.SHORE + BATHER + ";wipes b t 1" + TOWEL;
        DUE.faulty(early, NOT_TOLD, early.indexOf("wipes b t") + 8);
    }

    /** "NAMES are WORDS but shore, towel, ...": such a word, a whole, a sign, the end are no names. */
    private static void reserved(String line, int place) {
        String[] no = {"shore", "towel", "bather", "home", "wipes", "wrings", "hangs", "shakes", "seen",
            "0", ",", ";"};
        for (String word : no) {
            DUE.faulty(FULL + ";" + line.replace("#", word), FORM, FULL.length() + 1 + place);
        }
        DUE.faulty(FULL + ";" + line.substring(0, place), FORM, FULL.length() + 1 + place);
    }

    /** "6 LACKS: any LINE ahead of the shore; at its WORD". */
    private static void linesAheadOfTheShore() {
        String[] lines = {TOWEL, BATHER, ";home b 1", ";wipes b t 1", ";wrings t", ";hangs t 1", ";shakes b",
            ";seen t 1 1"};
        for (String line : lines) {
            DUE.faulty(line.substring(1) + ";" + FULL, LACKS, 0);
            DUE.faulty("   " + line.substring(1) + ";" + FULL, LACKS, 3);
        }
        DUE.faulty("shores" + FULL.substring(5), FORM, 0);
        DUE.faulty(";" + FULL, FORM, 0);
    }

    /** "the end: its place"; "at the end: no towel, no bather": behind a whole line LACKS, within one FORM. */
    private static void theEnd() {
        DUE.faulty("", FORM, 0);
        DUE.faulty(" ", FORM, 1);
        DUE.faulty(Due.SHORE, LACKS, Due.SHORE.length());
        DUE.faulty(Due.SHORE + " ", LACKS, Due.SHORE.length() + 1);
        DUE.faulty(Due.SHORE + TOWEL, LACKS, Due.SHORE.length() + TOWEL.length());
        DUE.faulty(Due.SHORE + BATHER, LACKS, Due.SHORE.length() + BATHER.length());
        DUE.faulty(Due.SHORE + ";", FORM, Due.SHORE.length() + 1);
        DUE.faulty(FULL + ";", FORM, FULL.length() + 1);
        DUE.faulty(FULL + ";  ", FORM, FULL.length() + 3);
        DUE.faulty(FULL + ";;", FORM, FULL.length() + 1);
        DUE.right(FULL + "   ", 1);
        DUE.right(Due.SHORE + BATHER + TOWEL, 1);
    }

    /** "the first that is met from the left, of one place the least number". */
    private static void ofOnePlaceTheLeastNumber() {
        // the end of nothing: FORM, not LACKS
        DUE.faulty("", FORM, 0);
        DUE.faulty(Due.SHORE + TOWEL + ";", FORM, Due.SHORE.length() + TOWEL.length() + 1);
        // five patches are out of bounds, and with four told too many
        String four = towels(4) + ";towel z patches ";
        DUE.faulty(four + "5", BOUNDS, four.length());
        DUE.faulty(four + "3", MANY, four.length());
        // a word that can't be a name is told by FORM, though no such name is told
        DUE.faulty(FULL + ";home seen", FORM, FULL.length() + 6);
        // a patch that isn't there, seen again
        DUE.faulty(FULL + ";seen t 1 1;seen t 2 1", BOUNDS, FULL.length() + 19);
        // from the left: an earlier place of a greater number is first
        DUE.faulty("towel ?", LACKS, 0);
        DUE.faulty(towels(1, 1, 1) + ";towel shore", MANY, towels(1, 1, 1).length() + 1);
        DUE.faulty(FULL + ";hangs t 61;shore", BOUNDS, FULL.length() + 9);
        DUE.faulty(FULL + ";home c 999", NOT_TOLD, FULL.length() + 6);
    }
}
