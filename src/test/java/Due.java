import java.nio.charset.StandardCharsets;
import java.util.Arrays;
import java.util.NoSuchElementException;

/** Counts the answers of one test that are not as due, and helps to tell texts. */
final class Due {
    static final String SHORE = "shore share 50 wipe 1 wring 2, 3 sun 50 wind 0";

    private final String test;
    private int asked = 0;
    private int wrong = 0;

    Due(String test) {
        this.test = test;
    }

    void is(String call, long got, long want) {
        asked++;
        if (got != want) {
            wrong++;
            System.out.println(test + ": " + call + " answered " + got + ", due is " + want);
        }
    }

    void is(String call, boolean got, boolean want) {
        is(call, got ? 1 : 0, want ? 1 : 0);
    }

    /** A call that isn't refused. */
    void good(OneTowel x, String call, long got, long want) {
        is(call, got, want);
        is("trouble() behind " + call, x.trouble(), 0);
    }

    void refused(OneTowel x, String call, long got, int trouble) {
        is(call, got, OneTowel.NONE);
        is("trouble() behind " + call, x.trouble(), trouble);
    }

    void denied(OneTowel x, String call, boolean got, int trouble) {
        is(call, got, false);
        is("trouble() behind " + call, x.trouble(), trouble);
    }

    void granted(OneTowel x, String call, boolean got) {
        is(call, got, true);
        is("trouble() behind " + call, x.trouble(), 0);
    }

    void nobodyLed(OneTowel x, int i) {
        boolean thrown = false;
        try {
            x.led(i);
        } catch (NoSuchElementException e) {
            thrown = true;
        }
        is("led(" + i + ") throws", thrown, true);
    }

    /** A text that has this fault at this place, whatever comes behind it. */
    void faulty(String text, int fault, int place) {
        faultyAlone(text, fault, place);
        if (place < text.length()) {
            faultyAlone(text + ";?", fault, place);
            faultyAlone(text + " 0 0;shakes shore", fault, place);
            faultyAlone(text + " t 0 0;home 1", fault, place);
        }
    }

    private void faultyAlone(String text, int fault, int place) {
        OneTowel x = new OneTowel();
        is("shore of \"" + text + "\"", tell(x, text), OneTowel.NONE);
        is("trouble() of \"" + text + "\"", x.trouble(), 4);
        is("fault() of \"" + text + "\"", x.fault(), fault);
        is("where() of \"" + text + "\"", x.where(), place);
        is("size(8) of \"" + text + "\"", x.size(8), 0);
    }

    /** A text without a fault that tells so many bathers. */
    void right(String text, int bathers) {
        OneTowel x = new OneTowel();
        is("shore of \"" + text + "\"", tell(x, text), bathers);
        is("trouble() of \"" + text + "\"", x.trouble(), 0);
        is("fault() of \"" + text + "\"", x.fault(), 0);
        is("where() of \"" + text + "\"", x.where(), OneTowel.NONE);
    }

    void end() {
        System.out.println(test + ": " + (asked - wrong) + " answers as due, " + wrong + " not");
        if (wrong != 0) {
            System.exit(1);
        }
    }

    static int tell(OneTowel x, String text) {
        put(x, text);
        return x.shore(text.length());
    }

    static OneTowel told(String text) {
        OneTowel x = new OneTowel();
        if (tell(x, text) == OneTowel.NONE) {
            throw new IllegalStateException(x.fault() + " at " + x.where() + " of " + text);
        }
        return x;
    }

    /** Feeds a text, filled with blanks up to a multiple of twenty bytes. */
    static void put(OneTowel x, String text) {
        byte[] bytes = text.getBytes(StandardCharsets.ISO_8859_1);
        byte[] full = Arrays.copyOf(bytes, (bytes.length + 19) / 20 * 20);
        Arrays.fill(full, bytes.length, full.length, (byte) ' ');
        for (int at = 0; at < full.length; at += 20) {
            x.feed(number(full, at), number(full, at + 4), number(full, at + 8),
                number(full, at + 12), number(full, at + 16));
        }
    }

    private static int number(byte[] bytes, int at) {
        int number = 0;
        for (int i = 0; i < 4; i++) {
            number = number << 8 | bytes[at + i] & 255;
        }
        return number;
    }
}
