/** A full shore, six bathers, three towels of six patches, twelve steps, six homes, six seen: promises of all sorts. */
public final class FullTest {
    private static final Due DUE = new Due("FullTest");
    private static final String TOWELS = "shore share 50 wipe 1 wring 0, 1 sun 50 wind 0;"
        + "towel t patches 2 holds 99 wet 8;towel u patches 2 holds 99 wet 8;towel v patches 2 holds 99 wet 8";

    public static void main(String[] args) {
        OneTowel x = Due.told(full());
        told(x);
        plan(x);
        orders(x);
        choices(x);
        seen(x);
        acts(x);
        theLastOrder();
        sixDogs();
        DUE.end();
    }

    private static String full() {
        StringBuilder text = new StringBuilder(TOWELS);
        for (int b = 0; b < 6; b++) {
            char name = (char) ('a' + b);
            text.append(";bather ").append(name).append(" plain wet ").append(10 * b + 10)
                .append(" cold 1 want 9 size ").append(9 - b).append(";home ").append(name).append(" 5");
        }
        text.append(";wipes a t 0;wipes b t 1;wipes c u 0;wipes d u 1;wipes e v 0;wipes f v 1;wrings v;hangs u 1");
        text.append(";shakes a;shakes f;wipes f v 1;wrings u");
        return text.append(";seen t 0 9;seen t 1 14;seen u 0 19;seen u 1 24;seen v 0 29;seen v 1 34").toString();
    }

    private static void told(OneTowel x) {
        int[] sizes = {50, 1, 0, 1, 50, 0, 3, 6, 6, 12, 6, 0, 0, 0};
        for (int what = 0; what < sizes.length; what++) {
            DUE.is("size(" + what + ")", x.size(what), sizes[what]);
        }
        for (int b = 0; b < 6; b++) {
            DUE.good(x, "bather(" + b + ", 1)", x.bather(b, 1), 10 * b + 10);
            DUE.good(x, "bather(" + b + ", 4)", x.bather(b, 4), 9 - b);
            DUE.good(x, "bather(" + b + ", 5)", x.bather(b, 5), 5);
            DUE.good(x, "patch(" + b + ")", x.patch(b), 8);
            DUE.good(x, "towelOf(" + b + ")", x.towelOf(b), b / 2);
            DUE.good(x, "passes(" + b + ", 5)", x.passes(b, 5), 5 * b + 1);
            DUE.good(x, "best(" + b + ")", x.best(b), 0);
            DUE.is("led(" + b + ")", x.led(b), b);
        }
        DUE.nobodyLed(x, 6);
        DUE.good(x, "water()", x.water(), 258);
        DUE.good(x, "wetOnes()", x.wetOnes(), 6);
    }

    private static void plan(OneTowel x) {
        int[] wet = {8, 14, 19, 24, 29, 17};
        int[] patch = {9, 14, 0, 0, 0, 16};
        int[] cold = {0, 10, 10, 10, 10, 10};
        for (int i = 0; i < 6; i++) {
            DUE.good(x, "planWet(12, " + i + ")", x.planWet(12, i), wet[i]);
            DUE.good(x, "planPatch(12, " + i + ")", x.planPatch(12, i), patch[i]);
            DUE.good(x, "planCold(12, " + i + ")", x.planCold(12, i), cold[i]);
            DUE.good(x, "dryBy(" + i + ")", x.dryBy(i), i == 0 ? 1 : -2);
        }
        DUE.good(x, "planTime(12)", x.planTime(12), 10);
        DUE.good(x, "planPatch(8, 3)", x.planPatch(8, 3), 12);
        DUE.good(x, "judge()", x.judge(), -2);
        DUE.good(x, "late()", x.late(), 62);
    }

    /** Each is wiped by a patch that nobody was wiped by: 9, 14, 19, 24, 29, 34 are left, a is dry. */
    private static void orders(OneTowel x) {
        int[] due = {34, 30, 129, 5};
        for (int what = 0; what < 4; what++) {
            DUE.good(x, "rule(0, " + what + ")", x.rule(0, what), due[what]);
        }
        DUE.good(x, "rule(1, 1)", x.rule(1, 1), 35);
        DUE.good(x, "wettest()", x.wettest(), 34);
        DUE.good(x, "coldest()", x.coldest(), 30);
        for (int i = 0; i < 6; i++) {
            DUE.good(x, "wettestAt(" + i + ")", x.wettestAt(i), i);
            DUE.good(x, "coldestAt(" + i + ")", x.coldestAt(i), i);
            DUE.good(x, "ruleAt(1, " + i + ")", x.ruleAt(1, i), 5 - i);
        }
    }

    private static void choices(OneTowel x) {
        // the first takes of a, b, c and d (9, 15, 22 and 31 left), of e it would leave 41
        int[] share = {0, 0, 0, 0, 1, 2};
        DUE.good(x, "share()", x.share(), 34);
        for (int b = 0; b < 6; b++) {
            DUE.good(x, "shareAt(" + b + ")", x.shareAt(b), share[b]);
        }
        // ahead of e: e and f by the patches wrung, 25 and 30 left
        DUE.good(x, "wringing()", x.wringing(), 40);
        DUE.good(x, "wrung()", x.wrung(), 30);
        for (int n = 1; n <= 3; n++) {
            DUE.good(x, "next(" + n + ")", x.next(n), 5);
            for (int i = 0; i < n; i++) {
                DUE.good(x, "nextAt(" + n + ", " + i + ")", x.nextAt(n, i), 0);
            }
        }
        DUE.good(x, "times(0)", x.times(0), 1);
        // 34, 21, 15, 12, 10, 9 are left
        DUE.good(x, "times(5)", x.times(5), 6);
        DUE.good(x, "sun(2, 1)", x.sun(2, 1), 3);
        DUE.good(x, "sun(2, 0)", x.sun(2, 0), -2);
        DUE.good(x, "wind(5)", x.wind(5), -2);
    }

    private static void seen(OneTowel x) {
        DUE.good(x, "fits()", x.fits(), 1);
        for (int b = 0; b < 6; b++) {
            DUE.good(x, "fit(0, " + b + ")", x.fit(0, b), b);
            DUE.good(x, "could(" + b + ")", x.could(b), 1 << b);
            DUE.good(x, "surely(" + b + ")", x.surely(b), b);
        }
        DUE.refused(x, "look()", x.look(), 6);
        OneTowel some = Due.told(full().replace(";seen u 1 24;seen v 0 29;seen v 1 34", ""));
        // who came fourth, fifth and sixth isn't known: by each patch two of six are left
        DUE.good(some, "fits() of three seen", some.fits(), 6);
        DUE.good(some, "look() of three seen", some.look(), 3);
        DUE.good(some, "lookMost() of three seen", some.lookMost(), 2);
        DUE.good(some, "could(5) of three seen", some.could(5), 56);
        DUE.good(some, "surely(2) of three seen", some.surely(2), 2);
    }

    private static void acts(OneTowel x) {
        DUE.good(x, "wipe(5, 5)", x.wipe(5, 5), 26);
        DUE.good(x, "wring(2)", x.wring(2), 42);
        DUE.good(x, "hang(1, 3)", x.hang(1, 3), 14);
        DUE.granted(x, "shake(5)", x.shake(5));
        DUE.good(x, "bather(5, 1)", x.bather(5, 1), 33);
        DUE.good(x, "patch(3)", x.patch(3), 1);
        DUE.good(x, "lost()", x.lost(), 57);
        DUE.good(x, "water()", x.water(), 201);
        DUE.good(x, "clock()", x.clock(), 5);
        for (int i = 0; i < 4; i++) {
            DUE.granted(x, "undo()", x.undo());
        }
        DUE.good(x, "water() again", x.water(), 258);
    }

    /** Each is dry when he is wiped, so the coldest comes first: of 720 orders the last. */
    private static void theLastOrder() {
        StringBuilder text = new StringBuilder(TOWELS.replace("wet 8", "wet 0"));
        for (int b = 0; b < 6; b++) {
            text.append(";bather ").append((char) ('a' + b)).append(" plain wet 10 cold ").append(b + 1)
                .append(" want 5 size 1");
        }
        OneTowel x = Due.told(text.toString());
        DUE.good(x, "coldest() by the last order", x.coldest(), 35);
        for (int i = 0; i < 6; i++) {
            DUE.good(x, "coldestAt(" + i + ") of the last order", x.coldestAt(i), 5 - i);
            DUE.good(x, "wettestAt(" + i + ") of like ones", x.wettestAt(i), i);
        }
    }

    private static void sixDogs() {
        StringBuilder text = new StringBuilder(TOWELS);
        for (int b = 0; b < 6; b++) {
            text.append(";bather ").append((char) ('a' + b)).append(" dog wet 10 cold 0 want 9 size 1");
        }
        OneTowel x = Due.told(text + ";shakes f;shakes a");
        int[] plan = {5, 12, 12, 12, 12, 6};
        for (int b = 0; b < 6; b++) {
            DUE.good(x, "planWet(2, " + b + ") of dogs", x.planWet(2, b), plan[b]);
        }
        DUE.granted(x, "shake(5) of a dog", x.shake(5));
        for (int b = 0; b < 6; b++) {
            DUE.good(x, "bather(" + b + ", 1) of dogs", x.bather(b, 1), b == 5 ? 5 : 11);
            DUE.good(x, "bather(" + b + ", 7) of dogs", x.bather(b, 7), b == 5 ? 1 : 0);
        }
        DUE.good(x, "lost() of dogs", x.lost(), 0);
        DUE.good(x, "wetOnes() of dogs", x.wetOnes(), 5);
    }
}
