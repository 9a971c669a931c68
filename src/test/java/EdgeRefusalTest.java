import java.util.List;
import java.util.function.Supplier;
import java.util.function.ToLongFunction;

/**
 * Each way in which a call is refused: what it answers, which trouble it tells, and that all stays as it was. For
 * that there are two objects of the same past; one has the call refused, then both must answer alike in all.
 */
public final class EdgeRefusalTest {
    private static final Due DUE = new Due("EdgeRefusalTest");
    private static final int NO_LOST = -100000;
    private static final int LEAST = Integer.MIN_VALUE;
    private static final int MOST = Integer.MAX_VALUE;

    /** Two bathers, two towels of two patches and one, two steps. */
    private static final String TEXT = "shore share 50 wipe 1 wring 2, 3 sun 40 wind 10"
        + ";towel t patches 2 holds 20 wet 3;towel u patches 1 holds 9 wet 0"
        + ";bather a small wet 40 cold 2 want 6 size 3;bather d dog wet 30 cold 1 want 2 size 5"
        + ";home a 9;wipes a t 1;hangs t 2;seen u 0 9";

    private static Supplier<OneTowel> past = EdgeRefusalTest::lived;
    private static String ofPast = "";

    public static void main(String[] args) {
        withoutAShore();
        lived(EdgeRefusalTest::lived, " lived");
        lived(EdgeRefusalTest::faulted, " faulted");
        fullMarks();
        nothingToUndo();
        nowhereToLook();
        notSo();
        aFaultyText();
        ofTwoTheFirst();
        callsThatTellNoNumber();
        callsThatAreNotRefused();
        DUE.end();
    }

    // ---- two of the same past

    private static void refused(String call, ToLongFunction<OneTowel> made, int trouble) {
        refused(call, made, OneTowel.NONE, trouble);
    }

    private static void denied(String call, ToLongFunction<OneTowel> made, int trouble) {
        refused(call, made, 0, trouble);
    }

    private static void refused(String call, ToLongFunction<OneTowel> made, long answer, int trouble) {
        OneTowel x = past.get();
        OneTowel y = past.get();
        String what = call + ofPast;
        DUE.is(what, made.applyAsLong(x), answer);
        DUE.is("trouble() behind " + what, x.trouble(), trouble);
        DUE.is("where() behind " + what, x.where(), OneTowel.NONE);
        stays(what, x, y);
    }

    /** What is now, what could be undone, the marks, the tape. */
    private static void stays(String what, OneTowel x, OneTowel y) {
        alike(what + ", then", Answers.all(x), Answers.all(y));
        DUE.is(what + ", then undo()", x.undo(), y.undo());
        alike(what + ", then undone,", Answers.now(x), Answers.now(y));
        DUE.is(what + ", then back(0)", x.back(0), y.back(0));
        alike(what + ", then back,", Answers.now(x), Answers.now(y));
        DUE.is(what + ", then shore()", x.shore(x.size(13)), y.shore(y.size(13)));
        DUE.is(what + ", then fault()", x.fault(), y.fault());
        DUE.is(what + ", then where()", x.where(), y.where());
        DUE.is(what + ", then size(8)", x.size(8), y.size(8));
    }

    private static void alike(String what, List<String> got, List<String> due) {
        DUE.is(what + " answers", got.size(), due.size());
        for (int i = 0; i < Math.min(got.size(), due.size()); i++) {
            DUE.is(what + " " + due.get(i) + ", got " + got.get(i), got.get(i).equals(due.get(i)), true);
        }
    }

    // ---- pasts

    /** Acts of all sorts, one of them undone, two marks, and forty bytes on the tape. */
    private static OneTowel lived() {
        OneTowel x = Due.told(TEXT);
        x.mark();
        x.wipe(0, 1);
        x.shake(1);
        x.waits(2);
        x.mark();
        x.hang(0, 1);
        x.wring(0);
        x.undo();
        Due.put(x, "shore share 1 wipe 1 wring ?");
        return x;
    }

    /** As lived, with a fault told, and the tape fed again. */
    private static OneTowel faulted() {
        OneTowel x = lived();
        x.shore(40);
        Due.put(x, "towel");
        return x;
    }

    // ---- no shore

    private static void withoutAShore() {
        past = OneTowel::new;
        ofPast = " without a shore";
        noneNow();
        noneOfAnyNumber();
        nobody(0);
        noTowel(0);
        noPatch(0);
        refused("step(0, 0)", x -> x.step(0, 0), 1);
        refused("ruleAt(0, 0)", x -> x.ruleAt(0, 0), 1);
        refused("fit(0, 0)", x -> x.fit(0, 0), 1);
        denied("undo()", x -> x.undo() ? 1 : 0, 6);
        denied("back(0)", x -> x.back(0) ? 1 : 0, 1);
        refused("shore(-1)", x -> x.shore(-1), 2);
        refused("shore(1)", x -> x.shore(1), 2);
    }

    private static void noneNow() {
        refused("water()", OneTowel::water, 1);
        refused("lost()", OneTowel::lost, NO_LOST, 1);
        refused("clock()", OneTowel::clock, 1);
        refused("wetOnes()", OneTowel::wetOnes, 1);
        refused("judge()", OneTowel::judge, 1);
        refused("late()", OneTowel::late, 1);
        refused("wettest()", OneTowel::wettest, 1);
        refused("coldest()", OneTowel::coldest, 1);
        refused("share()", OneTowel::share, 1);
        refused("wringing()", OneTowel::wringing, 1);
        refused("wrung()", OneTowel::wrung, 1);
        refused("fits()", OneTowel::fits, 1);
        refused("look()", OneTowel::look, 1);
        refused("lookMost()", OneTowel::lookMost, 1);
        refused("mark()", OneTowel::mark, 1);
    }

    /** No shore is told ahead of a number: right ones and wrong ones alike. */
    private static void noneOfAnyNumber() {
        int[] numbers = {0, 1, 2, 3, 60, -1, LEAST, MOST};
        for (int n : numbers) {
            refused("planTime(" + n + ")", x -> x.planTime(n), 1);
            refused("rule(0, " + n + ")", x -> x.rule(0, n), 1);
            refused("rule(" + n + ", 0)", x -> x.rule(n, 0), 1);
            refused("bestRule(" + n + ")", x -> x.bestRule(n), 1);
            refused("next(" + n + ")", x -> x.next(n), 1);
            refused("nextAt(" + n + ", 0)", x -> x.nextAt(n, 0), 1);
            refused("summer(0, " + n + ", 1)", x -> x.summer(0, n, 1), 1);
            refused("summer(0, 1, " + n + ")", x -> x.summer(0, 1, n), 1);
            refused("waits(" + n + ")", x -> x.waits(n), 1);
        }
    }

    // ---- numbers outside

    private static void lived(Supplier<OneTowel> made, String name) {
        past = made;
        ofPast = name;
        int[] bathers = {-1, 2, LEAST, MOST};
        for (int b : bathers) {
            nobody(b);
        }
        int[] towels = {-1, 2, 3, LEAST, MOST};
        for (int t : towels) {
            noTowel(t);
        }
        int[] patches = {-1, 3, 6, LEAST, MOST};
        for (int p : patches) {
            noPatch(p);
        }
        noSuchAspect();
        noSuchStep();
        noSuchRule();
        noSuchNext();
        noSuchMinutes();
        noSuchSummer();
        noSuchFit();
        noSuchMark();
        int[] bytes = {-1, made.get().size(13) + 1, LEAST, MOST};
        for (int n : bytes) {
            refused("shore(" + n + ")", x -> x.shore(n), 2);
        }
    }

    private static void nobody(int b) {
        refused("bather(" + b + ", 0)", x -> x.bather(b, 0), 1);
        refused("passes(" + b + ", 0)", x -> x.passes(b, 0), 1);
        refused("best(" + b + ")", x -> x.best(b), 1);
        refused("planWet(0, " + b + ")", x -> x.planWet(0, b), 1);
        refused("planCold(0, " + b + ")", x -> x.planCold(0, b), 1);
        refused("dryBy(" + b + ")", x -> x.dryBy(b), 1);
        refused("wettestAt(" + b + ")", x -> x.wettestAt(b), 1);
        refused("coldestAt(" + b + ")", x -> x.coldestAt(b), 1);
        refused("ruleAt(0, " + b + ")", x -> x.ruleAt(0, b), 1);
        refused("shareAt(" + b + ")", x -> x.shareAt(b), 1);
        refused("times(" + b + ")", x -> x.times(b), 1);
        refused("wind(" + b + ")", x -> x.wind(b), 1);
        refused("fit(0, " + b + ")", x -> x.fit(0, b), 1);
        refused("could(" + b + ")", x -> x.could(b), 1);
        refused("surely(" + b + ")", x -> x.surely(b), 1);
        refused("sixth(" + b + ", 0, 0, 1)", x -> x.sixth(b, 0, 0, 1), 1);
        refused("wipe(" + b + ", 0)", x -> x.wipe(b, 0), 1);
        denied("shake(" + b + ")", x -> x.shake(b) ? 1 : 0, 1);
    }

    private static void noTowel(int t) {
        refused("towel(" + t + ", 0)", x -> x.towel(t, 0), 1);
        refused("sun(" + t + ", 0)", x -> x.sun(t, 0), 1);
        refused("wring(" + t + ")", x -> x.wring(t), 1);
        refused("hang(" + t + ", 1)", x -> x.hang(t, 1), 1);
    }

    private static void noPatch(int p) {
        refused("patch(" + p + ")", x -> x.patch(p), 1);
        refused("towelOf(" + p + ")", x -> x.towelOf(p), 1);
        refused("passes(0, " + p + ")", x -> x.passes(0, p), 1);
        refused("planPatch(0, " + p + ")", x -> x.planPatch(0, p), 1);
        refused("wipe(0, " + p + ")", x -> x.wipe(0, p), 1);
    }

    private static void noSuchAspect() {
        int[] ofBather = {-1, 8, LEAST, MOST};
        for (int what : ofBather) {
            refused("bather(1, " + what + ")", x -> x.bather(1, what), 1);
        }
        int[] ofTowel = {-1, 3, LEAST, MOST};
        for (int what : ofTowel) {
            refused("towel(1, " + what + ")", x -> x.towel(1, what), 1);
        }
        int[] ofStep = {-1, 4, LEAST, MOST};
        for (int what : ofStep) {
            refused("step(1, " + what + ")", x -> x.step(1, what), 1);
            refused("rule(1, " + what + ")", x -> x.rule(1, what), 1);
            refused("bestRule(" + what + ")", x -> x.bestRule(what), 1);
        }
    }

    /** "k 0 up to all". */
    private static void noSuchStep() {
        int[] steps = {-1, 2, 12, LEAST, MOST};
        for (int i : steps) {
            refused("step(" + i + ", 0)", x -> x.step(i, 0), 1);
        }
        int[] behind = {-1, 3, 13, LEAST, MOST};
        for (int k : behind) {
            refused("planWet(" + k + ", 1)", x -> x.planWet(k, 1), 2);
            refused("planPatch(" + k + ", 2)", x -> x.planPatch(k, 2), 2);
            refused("planCold(" + k + ", 1)", x -> x.planCold(k, 1), 2);
            refused("planTime(" + k + ")", x -> x.planTime(k), 2);
        }
    }

    private static void noSuchRule() {
        int[] rules = {-1, 5, LEAST, MOST};
        for (int rule : rules) {
            refused("rule(" + rule + ", 3)", x -> x.rule(rule, 3), 1);
            refused("ruleAt(" + rule + ", 1)", x -> x.ruleAt(rule, 1), 1);
            refused("summer(" + rule + ", 1, 1)", x -> x.summer(rule, 1, 1), 1);
            refused("sixth(1, " + rule + ", 1, 1)", x -> x.sixth(1, rule, 1, 1), 1);
        }
    }

    /** "NEXT n (1 .. 3)", "1 (i)". */
    private static void noSuchNext() {
        int[] numbers = {0, -1, 4, LEAST, MOST};
        for (int n : numbers) {
            refused("next(" + n + ")", x -> x.next(n), 2);
            refused("nextAt(" + n + ", 0)", x -> x.nextAt(n, 0), 2);
        }
        for (int n = 1; n <= 3; n++) {
            int many = n;
            int[] places = {-1, many, many + 1, LEAST, MOST};
            for (int i : places) {
                refused("nextAt(" + many + ", " + i + ")", x -> x.nextAt(many, i), 1);
            }
        }
    }

    /** "1 .. 60" minutes, and "0 .. 99" drops to hang for. */
    private static void noSuchMinutes() {
        int[] minutes = {0, -1, 61, LEAST, MOST};
        for (int m : minutes) {
            refused("waits(" + m + ")", x -> x.waits(m), 2);
            refused("hang(0, " + m + ")", x -> x.hang(0, m), 2);
            refused("hang(1, " + m + ") of a dry one", x -> x.hang(1, m), 2);
        }
        int[] drops = {-1, 100, LEAST, MOST};
        for (int d : drops) {
            refused("sun(1, " + d + ")", x -> x.sun(1, d), 2);
        }
    }

    /** "SEED 0 .. 65,536, n 0 .. 60". */
    private static void noSuchSummer() {
        int[] seeds = {-1, 65537, LEAST, MOST};
        for (int seed : seeds) {
            refused("summer(4, " + seed + ", 0)", x -> x.summer(4, seed, 0), 2);
            refused("sixth(1, 4, " + seed + ", 0)", x -> x.sixth(1, 4, seed, 0), 2);
        }
        int[] days = {-1, 61, LEAST, MOST};
        for (int n : days) {
            refused("summer(4, 65536, " + n + ")", x -> x.summer(4, 65536, n), 2);
            refused("sixth(1, 4, 65536, " + n + ")", x -> x.sixth(1, 4, 65536, n), 2);
        }
    }

    private static void noSuchFit() {
        int many = past.get().fits();
        int[] orders = {-1, many, 720, LEAST, MOST};
        for (int i : orders) {
            refused("fit(" + i + ", 1)", x -> x.fit(i, 1), 1);
        }
    }

    private static void noSuchMark() {
        int[] marks = {-1, 2, 3, LEAST, MOST};
        for (int mark : marks) {
            denied("back(" + mark + ")", x -> x.back(mark) ? 1 : 0, 1);
        }
    }

    // ---- no room, none, not so

    private static void fullMarks() {
        past = () -> {
            OneTowel x = lived();
            x.mark();
            return x;
        };
        ofPast = " of three marks";
        refused("mark()", OneTowel::mark, 3);
        denied("back(3)", x -> x.back(3) ? 1 : 0, 1);
    }

    private static void nothingToUndo() {
        past = () -> Due.told(TEXT);
        ofPast = " of nothing";
        denied("undo()", x -> x.undo() ? 1 : 0, 6);
        denied("back(0)", x -> x.back(0) ? 1 : 0, 1);
        past = () -> {
            OneTowel x = lived();
            x.back(1);
            return x;
        };
        ofPast = " behind a mark";
        denied("undo()", x -> x.undo() ? 1 : 0, 6);
        past = () -> {
            OneTowel x = Due.told(TEXT);
            x.mark();
            for (int i = 0; i < 18; i++) {
                x.waits(1);
            }
            for (int i = 0; i < 16; i++) {
                x.undo();
            }
            return x;
        };
        ofPast = " of sixteen undone";
        denied("undo()", x -> x.undo() ? 1 : 0, 6);
    }

    /** "6 (all are seen, none FITS)": one not seen, of which none fits; all seen, of which one fits, or none. */
    private static void nowhereToLook() {
        String[] seen = {";seen t 0 16", ";seen t 0 15;seen t 1 3", ";seen t 0 15;seen t 1 4"};
        int[] fits = {0, 1, 0};
        for (int i = 0; i < seen.length; i++) {
            String lines = seen[i];
            past = () -> {
                OneTowel x = Due.told(TEXT + lines);
                x.mark();
                x.waits(1);
                return x;
            };
            ofPast = " of " + lines;
            DUE.is("fits()" + ofPast, past.get().fits(), fits[i]);
            refused("look()", OneTowel::look, 6);
            refused("lookMost()", OneTowel::lookMost, 6);
        }
    }

    /** "5 (nothing would)", "5 (its patches have nothing)", "5 (OF NO USE)". */
    private static void notSo() {
        past = () -> {
            OneTowel x = Due.told("shore share 50 wipe 1 wring 2, 3 sun 40 wind 10;towel t patches 2 holds 9 wet 2"
                + ";towel u patches 1 holds 9 wet 0;towel f patches 1 holds 1 wet 1"
                + ";bather a plain wet 9 cold 2 want 6 size 3;bather h hairy wet 3 cold 1 want 2 size 5"
                + ";bather n dog wet 0 cold 1 want 2 size 5;bather s plain wet 1 cold 1 want 1 size 1");
            x.shake(0);
            x.mark();
            x.waits(1);
            return x;
        };
        ofPast = "";
        refused("wipe(0, 3) of a full patch", x -> x.wipe(0, 3), 5);
        refused("wipe(1, 2) of a hairy one with three", x -> x.wipe(1, 2), 5);
        refused("wipe(2, 2) of one with nothing", x -> x.wipe(2, 2), 5);
        refused("wipe(3, 2) of one with a drop more", x -> x.wipe(3, 2), 5);
        refused("wipe(3, 0) of one with a drop less", x -> x.wipe(3, 0), 5);
        refused("wring(0) of just what is left", x -> x.wring(0), 5);
        refused("wring(1) of a dry one", x -> x.wring(1), 5);
        refused("hang(1, 1) of a dry one", x -> x.hang(1, 1), 5);
        refused("hang(1, 60) of a dry one", x -> x.hang(1, 60), 5);
        denied("shake(0) of one who has shaken", x -> x.shake(0) ? 1 : 0, 5);
        denied("shake(2) of a dog with nothing", x -> x.shake(2) ? 1 : 0, 5);
    }

    /** "4 (the SHORE stays)", but the tape is empty, and the fault is told. */
    private static void aFaultyText() {
        OneTowel x = lived();
        OneTowel y = lived();
        DUE.is("shore(40) of a fault", x.shore(40), OneTowel.NONE);
        DUE.is("trouble() of a fault", x.trouble(), 4);
        DUE.is("fault() of a fault", x.fault(), 1);
        DUE.is("where() of a fault", x.where(), 27);
        DUE.is("size(13) behind a fault", x.size(13), 0);
        // the other's tape is emptied by a fault, too: so both have told one
        DUE.is("shore(0) of a fault", y.shore(0), OneTowel.NONE);
        DUE.is("where() of no bytes", y.where(), 0);
        stays("a fault", x, y);
        OneTowel z = lived();
        z.shore(0);
        z.feed(0, 0, 0, 0, 0);
        OneTowel w = Due.told(TEXT);
        w.mark();
        w.wipe(0, 1);
        w.shake(1);
        w.waits(2);
        w.mark();
        w.hang(0, 1);
        w.wring(0);
        w.undo();
        List<String> faulty = Answers.all(z);
        List<String> never = Answers.all(w);
        for (int i = 0; i < faulty.size(); i++) {
            boolean told = faulty.get(i).startsWith("fault ") || faulty.get(i).startsWith("size(13) ");
            DUE.is(faulty.get(i) + " is " + never.get(i), faulty.get(i).equals(never.get(i)), !told);
        }
    }

    /** Where two numbers could be told: that which the promise names first. */
    private static void ofTwoTheFirst() {
        past = EdgeRefusalTest::lived;
        ofPast = " of two";
        refused("planWet(3, 2)", x -> x.planWet(3, 2), 1);
        refused("planPatch(-1, 3)", x -> x.planPatch(-1, 3), 1);
        refused("planCold(3, -1)", x -> x.planCold(3, -1), 1);
        refused("nextAt(4, 4)", x -> x.nextAt(4, 4), 2);
        refused("nextAt(0, -1)", x -> x.nextAt(0, -1), 2);
        refused("sun(2, 100)", x -> x.sun(2, 100), 1);
        refused("summer(5, -1, 61)", x -> x.summer(5, -1, 61), 1);
        refused("sixth(2, 0, -1, 61)", x -> x.sixth(2, 0, -1, 61), 1);
        refused("sixth(0, -1, 65537, 1)", x -> x.sixth(0, -1, 65537, 1), 1);
        refused("hang(2, 61)", x -> x.hang(2, 61), 1);
        refused("hang(1, 0)", x -> x.hang(1, 0), 2);
    }

    // ---- trouble

    /** "those of which a number is told here": the others leave what was told, whatever they answer. */
    private static void callsThatTellNoNumber() {
        OneTowel x = lived();
        DUE.refused(x, "wring(1)", x.wring(1), 5);
        DUE.is("size(-1)", x.size(-1), OneTowel.NONE);
        DUE.is("size(14)", x.size(14), OneTowel.NONE);
        DUE.is("size(least)", x.size(LEAST), OneTowel.NONE);
        DUE.is("size(most)", x.size(MOST), OneTowel.NONE);
        DUE.is("size(12)", x.size(12), 2);
        DUE.nobodyLed(x, -1);
        DUE.nobodyLed(x, 2);
        DUE.nobodyLed(x, LEAST);
        DUE.nobodyLed(x, MOST);
        DUE.is("led(0)", x.led(0), 0);
        DUE.is("led(1)", x.led(1), 1);
        DUE.is("fault()", x.fault(), 0);
        DUE.is("where()", x.where(), OneTowel.NONE);
        DUE.is("feed()", x.feed(0, 0, 0, 0, 0), 60);
        for (int bytes = 80; bytes <= 900; bytes += 20) {
            DUE.is("feed()", x.feed(0, 0, 0, 0, 0), bytes);
        }
        DUE.is("feed() above 900", x.feed(0, 0, 0, 0, 0), OneTowel.NONE);
        DUE.is("trouble() behind all of them", x.trouble(), 5);
        DUE.is("trouble() behind trouble()", x.trouble(), 5);
        alike("behind all of them", Answers.now(x).subList(0, 14), Answers.now(lived()).subList(0, 14));
        OneTowel faulty = new OneTowel();
        DUE.refused(faulty, "shore(0)", faulty.shore(0), 4);
        DUE.is("size(0)", faulty.size(0), 0);
        DUE.nobodyLed(faulty, 0);
        DUE.is("feed()", faulty.feed(0, 0, 0, 0, 0), 20);
        DUE.is("where() behind all of them", faulty.where(), 0);
        DUE.is("trouble() behind all of them", faulty.trouble(), 4);
    }

    private static void good(String call, ToLongFunction<OneTowel> made) {
        OneTowel x = lived();
        DUE.refused(x, "patch(3)", x.patch(3), 1);
        long answer = made.applyAsLong(x);
        DUE.is("trouble() behind " + call + ", which answers " + answer, x.trouble(), 0);
        // what it answers doesn't hang on the call that was refused
        DUE.is(call, made.applyAsLong(lived()), answer);
    }

    /** "0 it wasn't", behind one that was: each of the least and the greatest numbers that are taken. */
    private static void callsThatAreNotRefused() {
        for (int end = 0; end < 2; end++) {
            int one = end;
            good("bather", x -> x.bather(one, 7 * one));
            good("towel", x -> x.towel(one, 2 * one));
            good("patch", x -> x.patch(2 * one));
            good("towelOf", x -> x.towelOf(2 * one));
            good("passes", x -> x.passes(one, 2 * one));
            good("best", x -> x.best(one));
            good("step", x -> x.step(one, 3 * one));
            good("planWet", x -> x.planWet(2 * one, one));
            good("planPatch", x -> x.planPatch(2 * one, 2 * one));
            good("planCold", x -> x.planCold(2 * one, one));
            good("planTime", x -> x.planTime(2 * one));
            good("dryBy", x -> x.dryBy(one));
            good("wettestAt", x -> x.wettestAt(one));
            good("coldestAt", x -> x.coldestAt(one));
            good("rule", x -> x.rule(4 * one, 3 * one));
            good("bestRule", x -> x.bestRule(3 * one));
            good("ruleAt", x -> x.ruleAt(4 * one, one));
            good("shareAt", x -> x.shareAt(one));
            good("next", x -> x.next(1 + 2 * one));
            good("nextAt", x -> x.nextAt(1 + 2 * one, 2 * one));
            good("times", x -> x.times(one));
            good("sun", x -> x.sun(one, 99 * one));
            good("wind", x -> x.wind(one));
            good("fit", x -> x.fit((x.fits() - 1) * one, one));
            good("could", x -> x.could(one));
            good("surely", x -> x.surely(one));
            good("summer", x -> x.summer(4 * one, 65536 * one, 60 * one));
            good("sixth", x -> x.sixth(one, 4 * one, 65536 * one, 60 * one));
            good("wipe", x -> x.wipe(one, 2 * one));
            good("hang", x -> x.hang(0, 1 + 59 * one));
            good("waits", x -> x.waits(1 + 59 * one));
            good("back", x -> x.back(one) ? 1 : 0);
        }
        good("water", OneTowel::water);
        good("lost", OneTowel::lost);
        good("clock", OneTowel::clock);
        good("wetOnes", OneTowel::wetOnes);
        good("judge", OneTowel::judge);
        good("late", OneTowel::late);
        good("wettest", OneTowel::wettest);
        good("coldest", OneTowel::coldest);
        good("share", OneTowel::share);
        good("wringing", OneTowel::wringing);
        good("wrung", OneTowel::wrung);
        good("fits", OneTowel::fits);
        good("look", OneTowel::look);
        good("lookMost", OneTowel::lookMost);
        good("wring", x -> x.wring(0));
        good("shake", x -> x.shake(0) ? 1 : 0);
        good("undo", x -> x.undo() ? 1 : 0);
        good("mark", OneTowel::mark);
    }
}
