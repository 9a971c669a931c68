/** Promises 24 to 30: orders. */
public final class OrdersTest {
    private static final Due DUE = new Due("OrdersTest");
    private static final String STILL =
        "shore share 50 wipe 1 wring 0, 0 sun 0 wind 0;towel t patches 1 holds 99 wet 0;";
    private static final String THREE = STILL + "bather a plain wet 20 cold 1 want 0 size 2;"
        + "bather b small wet 40 cold 1 want 0 size 3;bather c plain wet 10 cold 5 want 30 size 1";

    public static void main(String[] args) {
        leastWettest();
        leastCold();
        rules();
        likeOnes();
        theLeastPatch();
        nowOn();
        askedFirst();
        anotherShoreOrMark();
        wrongOnes();
        DUE.end();
    }

    private static void order(OneTowel x, String what, int... due) {
        for (int i = 0; i < due.length; i++) {
            int got = what.equals("wettest") ? x.wettestAt(i)
                : what.equals("coldest") ? x.coldestAt(i) : x.ruleAt(what.charAt(0) - '0', i);
            DUE.good(x, what + "At(" + i + ")", got, due[i]);
        }
    }

    /** abc and acb leave 25, bac and bca 20, cab 26, cba 23. */
    private static void leastWettest() {
        OneTowel x = Due.told(THREE);
        DUE.good(x, "wettest()", x.wettest(), 20);
        order(x, "wettest", 1, 0, 2);
        OneTowel one = Due.told(STILL + "bather a plain wet 9 cold 0 want 0 size 1");
        DUE.good(one, "wettest() of one", one.wettest(), 5);
        order(one, "wettest", 0);
        OneTowel six = Due.told(STILL.replace("wet 0", "wet 99") + "bather a plain wet 9 cold 0 want 0 size 1;"
            + "bather b plain wet 9 cold 0 want 0 size 1;bather c plain wet 9 cold 0 want 0 size 1;"
            + "bather d plain wet 9 cold 0 want 0 size 1;bather e plain wet 9 cold 0 want 0 size 1;"
            + "bather f plain wet 10 cold 0 want 0 size 1");
        DUE.good(six, "wettest() of six", six.wettest(), 10);
        order(six, "wettest", 0, 1, 2, 3, 4, 5);
        OneTowel last = Due.told("shore share 50 wipe 0 wring 0, 0 sun 0 wind 0;towel t patches 1 holds 20 wet 0;"
            + "bather a plain wet 10 cold 0 want 0 size 1;bather b plain wet 20 cold 0 want 0 size 1;"
            + "bather c plain wet 40 cold 0 want 0 size 1");
        DUE.good(last, "wettest() of the greatest first", last.wettest(), 20);
        order(last, "wettest", 2, 0, 1);
    }

    private static void leastCold() {
        OneTowel x = Due.told(THREE);
        DUE.good(x, "coldest() of like ones", x.coldest(), 9);
        order(x, "coldest", 0, 1, 2);
        // ab: b is cold for two minutes; ba: a is
        OneTowel y = Due.told(STILL + "bather a plain wet 20 cold 1 want 10 size 1;"
            + "bather b plain wet 40 cold 5 want 20 size 1");
        DUE.good(y, "coldest()", y.coldest(), 2);
        order(y, "coldest", 1, 0);
        DUE.good(y, "waits(3)", y.waits(3), 3);
        DUE.good(y, "coldest() and how cold they are", y.coldest(), 20);
        OneTowel small = Due.told(STILL + "bather a plain wet 20 cold 3 want 10 size 1;"
            + "bather b small wet 20 cold 2 want 10 size 1");
        DUE.good(small, "coldest() of a small one", small.coldest(), 6);
        order(small, "coldest", 1, 0);
        OneTowel slow = Due.told(STILL.replace("wipe 1", "wipe 9") + "bather a plain wet 20 cold 3 want 10 size 1;"
            + "bather b small wet 20 cold 2 want 10 size 1");
        DUE.good(slow, "coldest() of nine minutes", slow.coldest(), 54);
    }

    private static void rules() {
        OneTowel x = Due.told(THREE);
        order(x, "0", 0, 1, 2);
        order(x, "1", 2, 0, 1);
        order(x, "2", 1, 0, 2);
        order(x, "3", 1, 0, 2);
        order(x, "4", 2, 1, 0);
        int[][] due = {{25, 9, 45, 2}, {26, 9, 44, 2}, {20, 9, 50, 2}, {20, 9, 50, 2}, {23, 9, 48, 2}};
        for (int rule = 0; rule < 5; rule++) {
            for (int what = 0; what < 4; what++) {
                DUE.good(x, "rule(" + rule + ", " + what + ")", x.rule(rule, what), due[rule][what]);
            }
        }
        int[] best = {2, 0, 1, 0};
        for (int what = 0; what < 4; what++) {
            DUE.good(x, "bestRule(" + what + ")", x.bestRule(what), best[what]);
        }
        OneTowel y = Due.told(STILL + "bather a plain wet 20 cold 1 want 8 size 1;"
            + "bather b plain wet 40 cold 5 want 20 size 1");
        DUE.good(y, "rule(0, 3)", y.rule(0, 3), 2);
        DUE.good(y, "rule(4, 3)", y.rule(4, 3), 1);
        DUE.good(y, "bestRule(3)", y.bestRule(3), 3);
        DUE.good(y, "bestRule(1)", y.bestRule(1), 3);
    }

    private static void likeOnes() {
        OneTowel x = Due.told(STILL + "bather a plain wet 20 cold 4 want 0 size 5;"
            + "bather b small wet 20 cold 2 want 0 size 4;bather c dog wet 30 cold 5 want 0 size 4;"
            + "bather d hairy wet 30 cold 4 want 0 size 5");
        order(x, "1", 1, 2, 0, 3);
        order(x, "2", 0, 3, 1, 2);
        order(x, "3", 2, 3, 0, 1);
        order(x, "4", 2, 0, 1, 3);
        OneTowel y = Due.told(STILL + "bather a dog wet 20 cold 4 want 0 size 5;"
            + "bather b small wet 20 cold 3 want 0 size 4");
        order(y, "4", 1, 0);
    }

    private static void theLeastPatch() {
        OneTowel x = Due.told("shore share 50 wipe 0 wring 0, 0 sun 0 wind 0;towel t patches 1 holds 99 wet 6;"
            + "towel s patches 2 holds 9 wet 4;bather a plain wet 8 cold 0 want 0 size 1;"
            + "bather b plain wet 10 cold 0 want 0 size 1;bather c plain wet 11 cold 0 want 0 size 1");
        // a: 2 into the second patch (6 then), b: 3 into the third (7), c: 2 into the first (8)
        DUE.good(x, "rule(0, 2)", x.rule(0, 2), 22);
        DUE.good(x, "rule(0, 0)", x.rule(0, 0), 9);
    }

    private static void nowOn() {
        OneTowel x = Due.told(THREE);
        DUE.good(x, "wettest() at first", x.wettest(), 20);
        DUE.good(x, "wipe(1, 0)", x.wipe(1, 0), 20);
        order(x, "3", 0, 1, 2);
        // 20, 20 and 10, the patch has 20: nothing passes any more
        DUE.good(x, "wettest() then", x.wettest(), 20);
        order(x, "wettest", 0, 1, 2);
        DUE.good(x, "coldest() then", x.coldest(), 12);
        DUE.good(x, "rule(3, 2) then", x.rule(3, 2), 50);
        DUE.granted(x, "undo()", x.undo());
        order(x, "wettest", 1, 0, 2);
        DUE.good(x, "coldest() again", x.coldest(), 9);
        DUE.good(x, "nothing has happened", x.bather(1, 1), 40);
        DUE.good(x, "no minute has gone", x.clock(), 0);
    }

    private static void askedFirst() {
        DUE.is("wettestAt(0) asked first", Due.told(THREE).wettestAt(0), 1);
        OneTowel y = Due.told(STILL + "bather a plain wet 20 cold 1 want 10 size 1;"
            + "bather b plain wet 40 cold 5 want 20 size 1");
        DUE.is("coldestAt(0) asked first", y.coldestAt(0), 1);
        DUE.is("bestRule(0) asked first", Due.told(THREE).bestRule(0), 2);
        OneTowel dry = Due.told(STILL + "bather a plain wet 0 cold 1 want 10 size 1");
        DUE.good(dry, "wettest() of nothing", dry.wettest(), 0);
        DUE.good(dry, "coldest() of nothing", dry.coldest(), 0);
        DUE.good(dry, "rule(0, 0) of nothing", dry.rule(0, 0), 0);
    }

    private static void anotherShoreOrMark() {
        OneTowel x = Due.told(THREE);
        DUE.good(x, "mark()", x.mark(), 0);
        DUE.good(x, "wettest()", x.wettest(), 20);
        DUE.good(x, "wipe(1, 0)", x.wipe(1, 0), 20);
        DUE.good(x, "coldest() behind it", x.coldest(), 12);
        DUE.granted(x, "back(0)", x.back(0));
        DUE.good(x, "coldest() by the mark", x.coldest(), 9);
        order(x, "wettest", 1, 0, 2);
        DUE.is("another shore", Due.tell(x, STILL + "bather a plain wet 9 cold 1 want 0 size 1"), 1);
        DUE.good(x, "wettest() of another shore", x.wettest(), 5);
        order(x, "wettest", 0);
        DUE.good(x, "coldest() of another shore", x.coldest(), 1);
    }

    private static void wrongOnes() {
        OneTowel x = Due.told(THREE);
        int[] wrong = {-1, 3, 6, Integer.MAX_VALUE, Integer.MIN_VALUE};
        for (int i : wrong) {
            DUE.refused(x, "wettestAt(" + i + ")", x.wettestAt(i), 1);
            DUE.refused(x, "coldestAt(" + i + ")", x.coldestAt(i), 1);
            DUE.refused(x, "ruleAt(0, " + i + ")", x.ruleAt(0, i), 1);
        }
        int[] noRules = {-1, 5, Integer.MAX_VALUE, Integer.MIN_VALUE};
        for (int rule : noRules) {
            DUE.refused(x, "rule(" + rule + ", 0)", x.rule(rule, 0), 1);
            DUE.refused(x, "ruleAt(" + rule + ", 0)", x.ruleAt(rule, 0), 1);
        }
        int[] noAspects = {-1, 4, Integer.MAX_VALUE, Integer.MIN_VALUE};
        for (int what : noAspects) {
            DUE.refused(x, "rule(0, " + what + ")", x.rule(0, what), 1);
            DUE.refused(x, "bestRule(" + what + ")", x.bestRule(what), 1);
        }
        OneTowel none = new OneTowel();
        DUE.refused(none, "wettest() without", none.wettest(), 1);
        DUE.refused(none, "wettestAt(0) without", none.wettestAt(0), 1);
        DUE.refused(none, "coldest() without", none.coldest(), 1);
        DUE.refused(none, "coldestAt(0) without", none.coldestAt(0), 1);
        DUE.refused(none, "rule(0, 0) without", none.rule(0, 0), 1);
        DUE.refused(none, "bestRule(0) without", none.bestRule(0), 1);
        DUE.refused(none, "ruleAt(0, 0) without", none.ruleAt(0, 0), 1);
    }
}
