import java.util.NoSuchElementException;

/** One towel for six: a shore told as a text, its plan, its orders, and what is done on it. */
public final class OneTowel {
    public static final int NONE = -1;

    /** In an answer that isn't refused: there is none. */
    private static final int WITHOUT = -2;
    private static final int NO_LOST = -100000;

    private static final int NONE_SUCH = 1;
    private static final int BAD_NUMBER = 2;
    private static final int NO_ROOM = 3;
    private static final int FAULTY = 4;
    private static final int NOT_SO = 5;
    private static final int NOTHING = 6;

    private static final int TAPE_BYTES = 900;
    private static final int FEED_BYTES = 20;
    private static final int TOWELS = 3;
    private static final int PATCHES = 6;
    private static final int BATHERS = 6;
    private static final int STEPS = 12;
    private static final int MOST_DROPS = 99;
    private static final int ALL_ORDERS = 720;
    private static final int RULES = 5;
    private static final int RULE_ASPECTS = 4;
    private static final int MOST_NEXT = 3;
    private static final int MOST_TIMES = 60;
    private static final int MOST_MINUTES = 240;
    private static final int ACT_MINUTES = 60;
    private static final int SUMMER_DAYS = 60;
    private static final int SEED_MODULUS = 65537;
    /** Above every number of drops, of cold and of minutes. */
    private static final int ABOVE_ALL = 1000000000;

    private static final int PLAIN = 0;
    private static final int HAIRY = 1;
    private static final int DOG = 2;
    private static final int SMALL = 3;

    private static final int WIPES = 0;
    private static final int WRINGS = 1;
    private static final int HANGS = 2;
    private static final int SHAKES = 3;

    private final Tape tape = new Tape();
    private Shore shore = new Shore();
    private final Scene now = new Scene();
    private final Scene scratch = new Scene();
    private final History history = new History();
    private final Walk walk = new Walk();
    private final Choices choices = new Choices();
    private final Nexts nexts = new Nexts();
    private final Fits fitting = new Fits();
    private int lastFault = 0;
    private int lastPlace = NONE;
    private int lastTrouble = 0;

    public OneTowel() {
    }

    // ---- the shore

    public int feed(int a, int b, int c, int d, int e) {
        if (tape.length > TAPE_BYTES - FEED_BYTES) {
            return NONE;
        }
        tape.append(a);
        tape.append(b);
        tape.append(c);
        tape.append(d);
        tape.append(e);
        return tape.length;
    }

    public int shore(int n) {
        if (n < 0 || n > tape.length) {
            return refuse(BAD_NUMBER);
        }
        lastFault = tape.read(n);
        lastPlace = tape.place;
        if (lastFault != 0) {
            return refuse(FAULTY);
        }
        shore = tape.trade(shore);
        shore.reckon();
        now.begin(shore);
        history.clear();
        fitting.known = false;
        forget();
        return answer(shore.bathers.count);
    }

    public int fault() {
        return lastFault;
    }

    public int where() {
        return lastTrouble == FAULTY ? lastPlace : NONE;
    }

    // ---- now

    public int bather(int b, int what) {
        if (noBather(b)) {
            return refuse(NONE_SUCH);
        }
        Bathers told = shore.bathers;
        switch (what) {
            case 0: return answer(told.kind[b]);
            case 1: return answer(now.drops[b]);
            case 2: return answer(now.cold[b]);
            case 3: return answer(told.want[b]);
            case 4: return answer(told.size[b]);
            case 5: return answer(told.home[b]);
            case 6: return answer(now.isDry(shore, b) ? 1 : 0);
            case 7: return answer(now.hasShaken(b) ? 1 : 0);
            default: return refuse(NONE_SUCH);
        }
    }

    public int towel(int t, int what) {
        if (noTowel(t)) {
            return refuse(NONE_SUCH);
        }
        Towels told = shore.towels;
        switch (what) {
            case 0: return answer(told.size[t]);
            case 1: return answer(told.holds[t]);
            case 2: return answer(told.first[t]);
            default: return refuse(NONE_SUCH);
        }
    }

    public int patch(int p) {
        return noPatch(p) ? refuse(NONE_SUCH) : answer(now.patch[p]);
    }

    public int towelOf(int p) {
        return noPatch(p) ? refuse(NONE_SUCH) : answer(shore.towels.owner[p]);
    }

    public int passes(int b, int p) {
        if (noBather(b) || noPatch(p)) {
            return refuse(NONE_SUCH);
        }
        return answer(now.amount(shore, b, p));
    }

    public int best(int b) {
        if (noBather(b)) {
            return refuse(NONE_SUCH);
        }
        int most = 0;
        for (int p = 1; p < shore.towels.patches; p++) {
            if (now.amount(shore, b, p) > now.amount(shore, b, most)) {
                most = p;
            }
        }
        return answer(most);
    }

    public int water() {
        if (noShore()) {
            return refuse(NONE_SUCH);
        }
        int all = now.dropsOfAll(shore);
        for (int p = 0; p < shore.towels.patches; p++) {
            all += now.patch[p];
        }
        return answer(all);
    }

    public int lost() {
        if (noShore()) {
            refuse(NONE_SUCH);
            return NO_LOST;
        }
        return answer(now.lost);
    }

    public int clock() {
        return noShore() ? refuse(NONE_SUCH) : answer(now.minute);
    }

    public int wetOnes() {
        return noShore() ? refuse(NONE_SUCH) : answer(now.notDry(shore));
    }

    // ---- the plan

    public int step(int i, int what) {
        Plan plan = shore.plan;
        if (i < 0 || i >= plan.count) {
            return refuse(NONE_SUCH);
        }
        switch (what) {
            case 0: return answer(plan.sort[i]);
            case 1: return answer(plan.who[i]);
            case 2: return answer(plan.what[i]);
            case 3: return answer(plan.minutes[i]);
            default: return refuse(NONE_SUCH);
        }
    }

    public int planWet(int k, int b) {
        if (noBather(b)) {
            return refuse(NONE_SUCH);
        }
        return noStepCount(k) ? refuse(BAD_NUMBER) : answer(shore.plan.behind[k].drops[b]);
    }

    public int planPatch(int k, int p) {
        if (noPatch(p)) {
            return refuse(NONE_SUCH);
        }
        return noStepCount(k) ? refuse(BAD_NUMBER) : answer(shore.plan.behind[k].patch[p]);
    }

    public int planCold(int k, int b) {
        if (noBather(b)) {
            return refuse(NONE_SUCH);
        }
        return noStepCount(k) ? refuse(BAD_NUMBER) : answer(shore.plan.behind[k].cold[b]);
    }

    public int planTime(int k) {
        if (noShore()) {
            return refuse(NONE_SUCH);
        }
        return noStepCount(k) ? refuse(BAD_NUMBER) : answer(shore.plan.behind[k].minute);
    }

    public int judge() {
        return noShore() ? refuse(NONE_SUCH) : answer(shore.plan.firstUseless);
    }

    public int dryBy(int b) {
        return noBather(b) ? refuse(NONE_SUCH) : answer(shore.plan.firstDry(shore, b));
    }

    public int late() {
        return noShore() ? refuse(NONE_SUCH) : answer(shore.plan.lateOnes(shore));
    }

    // ---- orders

    public int wettest() {
        if (noShore()) {
            return refuse(NONE_SUCH);
        }
        choices.learnOrders(shore, now, walk);
        return answer(choices.leastWettest);
    }

    public int wettestAt(int i) {
        if (noBather(i)) {
            return refuse(NONE_SUCH);
        }
        choices.learnOrders(shore, now, walk);
        return answer(choices.byWettest[i]);
    }

    public int coldest() {
        if (noShore()) {
            return refuse(NONE_SUCH);
        }
        choices.learnOrders(shore, now, walk);
        return answer(choices.leastCold);
    }

    public int coldestAt(int i) {
        if (noBather(i)) {
            return refuse(NONE_SUCH);
        }
        choices.learnOrders(shore, now, walk);
        return answer(choices.byCold[i]);
    }

    public int rule(int rule, int what) {
        if (noShore() || noRule(rule) || noAspect(what)) {
            return refuse(NONE_SUCH);
        }
        return answer(byRule(rule, what));
    }

    public int bestRule(int what) {
        if (noShore() || noAspect(what)) {
            return refuse(NONE_SUCH);
        }
        int first = 0;
        int least = byRule(0, what);
        for (int r = 1; r < RULES; r++) {
            int value = byRule(r, what);
            if (value < least) {
                least = value;
                first = r;
            }
        }
        return answer(first);
    }

    public int ruleAt(int rule, int i) {
        if (noRule(rule) || noBather(i)) {
            return refuse(NONE_SUCH);
        }
        walk.arrange(shore, now, rule);
        return answer(walk.order[i]);
    }

    private int byRule(int rule, int what) {
        walk.arrange(shore, now, rule);
        walk.leave(now);
        Scene end = walk.goOn(shore, 0);
        switch (what) {
            case 0: return end.mostDrops(shore);
            case 1: return end.coldOfAll(shore);
            case 2: return end.dropsOfAll(shore);
            default: return end.notDry(shore);
        }
    }

    // ---- patches, wringing, what is next

    public int share() {
        if (noShore()) {
            return refuse(NONE_SUCH);
        }
        choices.learnSharing(shore, now);
        return answer(choices.leastShared);
    }

    public int shareAt(int b) {
        if (noBather(b)) {
            return refuse(NONE_SUCH);
        }
        choices.learnSharing(shore, now);
        return answer(choices.patchOf[b]);
    }

    public int wringing() {
        if (noShore()) {
            return refuse(NONE_SUCH);
        }
        choices.learnWringing(shore, now, scratch);
        return answer(choices.wringAt);
    }

    public int wrung() {
        if (noShore()) {
            return refuse(NONE_SUCH);
        }
        choices.learnWringing(shore, now, scratch);
        return answer(choices.wrungWettest);
    }

    public int next(int n) {
        if (noShore()) {
            return refuse(NONE_SUCH);
        }
        if (n < 1 || n > MOST_NEXT) {
            return refuse(BAD_NUMBER);
        }
        nexts.learn(shore, now, n);
        return answer(nexts.wet[n]);
    }

    public int nextAt(int n, int i) {
        if (noShore()) {
            return refuse(NONE_SUCH);
        }
        if (n < 1 || n > MOST_NEXT) {
            return refuse(BAD_NUMBER);
        }
        if (i < 0 || i >= n) {
            return refuse(NONE_SUCH);
        }
        nexts.learn(shore, now, n);
        return answer(nexts.steps[n][i]);
    }

    public int times(int b) {
        if (noBather(b)) {
            return refuse(NONE_SUCH);
        }
        scratch.copy(now);
        for (int often = 0; often <= MOST_TIMES; often++) {
            if (scratch.isDry(shore, b)) {
                return answer(often);
            }
            scratch.doWipe(shore, b, scratch.leastPatch(shore));
        }
        return answer(WITHOUT);
    }

    public int sun(int t, int drops) {
        if (noTowel(t)) {
            return refuse(NONE_SUCH);
        }
        if (drops < 0 || drops > MOST_DROPS) {
            return refuse(BAD_NUMBER);
        }
        scratch.copy(now);
        for (int minutes = 0; minutes <= MOST_MINUTES; minutes++) {
            if (scratch.mostOfTowel(shore, t) <= drops) {
                return answer(minutes);
            }
            scratch.shine(shore, t);
        }
        return answer(WITHOUT);
    }

    public int wind(int b) {
        if (noBather(b)) {
            return refuse(NONE_SUCH);
        }
        int drops = now.drops[b];
        for (int minutes = 0; minutes <= MOST_MINUTES; minutes++) {
            if (drops <= shore.bathers.want[b]) {
                return answer(minutes);
            }
            drops -= shore.blown(drops);
        }
        return answer(WITHOUT);
    }

    // ---- what was seen

    public int fits() {
        if (noShore()) {
            return refuse(NONE_SUCH);
        }
        fitting.learn(shore, walk);
        return answer(fitting.count);
    }

    public int fit(int i, int k) {
        if (noBather(k)) {
            return refuse(NONE_SUCH);
        }
        fitting.learn(shore, walk);
        if (i < 0 || i >= fitting.count) {
            return refuse(NONE_SUCH);
        }
        return answer(fitting.whoAt(i, k));
    }

    public int could(int b) {
        if (noBather(b)) {
            return refuse(NONE_SUCH);
        }
        fitting.learn(shore, walk);
        return answer(fitting.places[b]);
    }

    public int surely(int b) {
        if (noBather(b)) {
            return refuse(NONE_SUCH);
        }
        fitting.learn(shore, walk);
        return answer(fitting.onlyPlace(b));
    }

    public int look() {
        return lookAnswer(true);
    }

    public int lookMost() {
        return lookAnswer(false);
    }

    private int lookAnswer(boolean whichPatch) {
        if (noShore()) {
            return refuse(NONE_SUCH);
        }
        fitting.learn(shore, walk);
        if (fitting.lookPatch == NONE) {
            return refuse(NOTHING);
        }
        return answer(whichPatch ? fitting.lookPatch : fitting.lookLeft);
    }

    // ---- summers

    public int summer(int rule, int seed, int n) {
        if (noShore() || noRule(rule)) {
            return refuse(NONE_SUCH);
        }
        if (noSummer(seed, n)) {
            return refuse(BAD_NUMBER);
        }
        int all = 0;
        int drawn = seed;
        for (int day = 0; day < n; day++) {
            drawn = drawDay(drawn);
            walk.arrange(shore, scratch, rule);
            walk.leave(scratch);
            all += walk.goOn(shore, 0).mostDrops(shore);
        }
        return answer(all);
    }

    public int sixth(int b, int rule, int seed, int n) {
        if (noBather(b) || noRule(rule)) {
            return refuse(NONE_SUCH);
        }
        if (noSummer(seed, n)) {
            return refuse(BAD_NUMBER);
        }
        int last = shore.bathers.count - 1;
        int often = 0;
        int drawn = seed;
        for (int day = 0; day < n; day++) {
            drawn = drawDay(drawn);
            walk.arrange(shore, scratch, rule);
            if (walk.order[last] == b) {
                often++;
            }
        }
        return answer(often);
    }

    /** Sets the morning of a day; the seed behind its draws. */
    private int drawDay(int seed) {
        int drawn = seed;
        scratch.begin(shore);
        for (int b = 0; b < shore.bathers.count; b++) {
            drawn = (75 * drawn + 74) % SEED_MODULUS;
            scratch.drops[b] = drawn % 99 + 1;
        }
        return drawn;
    }

    // ---- acts

    public int wipe(int b, int p) {
        if (noBather(b) || noPatch(p)) {
            return refuse(NONE_SUCH);
        }
        if (now.amount(shore, b, p) == 0) {
            return refuse(NOT_SO);
        }
        keep();
        return answer(now.doWipe(shore, b, p));
    }

    public int wring(int t) {
        if (noTowel(t)) {
            return refuse(NONE_SUCH);
        }
        if (now.wringable(shore, t) == 0) {
            return refuse(NOT_SO);
        }
        keep();
        return answer(now.doWring(shore, t));
    }

    public int hang(int t, int minutes) {
        if (noTowel(t)) {
            return refuse(NONE_SUCH);
        }
        if (minutes < 1 || minutes > ACT_MINUTES) {
            return refuse(BAD_NUMBER);
        }
        if (now.mostOfTowel(shore, t) == 0) {
            return refuse(NOT_SO);
        }
        keep();
        return answer(now.doHang(shore, t, minutes));
    }

    public boolean shake(int b) {
        if (noBather(b)) {
            return denied(NONE_SUCH);
        }
        if (now.hasShaken(b) || now.drops[b] == 0) {
            return denied(NOT_SO);
        }
        keep();
        now.doShake(shore, b);
        return granted();
    }

    public int waits(int minutes) {
        if (noShore()) {
            return refuse(NONE_SUCH);
        }
        if (minutes < 1 || minutes > ACT_MINUTES) {
            return refuse(BAD_NUMBER);
        }
        keep();
        now.letPass(shore, minutes);
        return answer(now.minute);
    }

    public boolean undo() {
        if (!history.takeBack(now)) {
            return denied(NOTHING);
        }
        forget();
        return granted();
    }

    public int mark() {
        if (noShore()) {
            return refuse(NONE_SUCH);
        }
        int number = history.addMark(now);
        return number == NONE ? refuse(NO_ROOM) : answer(number);
    }

    public boolean back(int mark) {
        if (!history.goBack(mark, now)) {
            return denied(NONE_SUCH);
        }
        forget();
        return granted();
    }

    /** An act is about to change what is now. */
    private void keep() {
        history.keep(now);
        forget();
    }

    private void forget() {
        choices.forget();
        nexts.forget();
    }

    // ---- what is told

    public int led(int i) throws NoSuchElementException {
        int seen = 0;
        for (int b = 0; b < shore.bathers.count; b++) {
            if (!now.isDry(shore, b)) {
                if (seen == i) {
                    return b;
                }
                seen++;
            }
        }
        throw new NoSuchElementException("no such bather who isn't dry");
    }

    public int size(int what) {
        switch (what) {
            case 0: return shore.share;
            case 1: return shore.wipeMinutes;
            case 2: return shore.wringLeaves;
            case 3: return shore.wringMinutes;
            case 4: return shore.sun;
            case 5: return shore.wind;
            case 6: return shore.towels.count;
            case 7: return shore.towels.patches;
            case 8: return shore.bathers.count;
            case 9: return shore.plan.count;
            case 10: return shore.towels.seenCount;
            case 11: return history.count;
            case 12: return history.marked;
            case 13: return tape.length;
            default: return NONE;
        }
    }

    public int trouble() {
        return lastTrouble;
    }

    private int refuse(int why) {
        lastTrouble = why;
        return NONE;
    }

    private int answer(int value) {
        lastTrouble = 0;
        return value;
    }

    private boolean denied(int why) {
        lastTrouble = why;
        return false;
    }

    private boolean granted() {
        lastTrouble = 0;
        return true;
    }

    private boolean noShore() {
        return shore.bathers.count == 0;
    }

    private boolean noBather(int b) {
        return b < 0 || b >= shore.bathers.count;
    }

    private boolean noTowel(int t) {
        return t < 0 || t >= shore.towels.count;
    }

    private boolean noPatch(int p) {
        return p < 0 || p >= shore.towels.patches;
    }

    private boolean noStepCount(int k) {
        return k < 0 || k > shore.plan.count;
    }

    private boolean noRule(int rule) {
        return rule < 0 || rule >= RULES;
    }

    private boolean noAspect(int what) {
        return what < 0 || what >= RULE_ASPECTS;
    }

    private boolean noSummer(int seed, int n) {
        return seed < 0 || seed >= SEED_MODULUS || n < 0 || n > SUMMER_DAYS;
    }

    /** What is told of the towels, their patches, and what was seen of these. */
    private static final class Towels {
        int count = 0;
        int patches = 0;
        int seenCount = 0;
        final int[] size = new int[TOWELS];
        final int[] first = new int[TOWELS];
        final int[] holds = new int[TOWELS];
        final int[] owner = new int[PATCHES];
        final int[] wet = new int[PATCHES];
        final int[] seen = new int[PATCHES];

        void clear() {
            count = 0;
            patches = 0;
            seenCount = 0;
        }

        void add(int patchCount, int eachHolds, int eachWet) {
            if (count >= TOWELS || patches + patchCount > PATCHES) {
                return;
            }
            size[count] = patchCount;
            first[count] = patches;
            holds[count] = eachHolds;
            for (int i = 0; i < patchCount; i++) {
                owner[patches] = count;
                wet[patches] = eachWet;
                seen[patches] = NONE;
                patches++;
            }
            count++;
        }

        boolean isSeen(int p) {
            return seen[p] != NONE;
        }

        int endOf(int t) {
            return first[t] + size[t];
        }
    }

    /** What is told of the bathers. */
    private static final class Bathers {
        int count = 0;
        final int[] kind = new int[BATHERS];
        final int[] wet = new int[BATHERS];
        final int[] want = new int[BATHERS];
        final int[] size = new int[BATHERS];
        final int[] home = new int[BATHERS];
        /** By how much one gets colder in a minute. */
        final int[] chill = new int[BATHERS];
    }

    /** The shore as it is told. */
    private static final class Shore {
        int share = 0;
        int wipeMinutes = 0;
        int wringLeaves = 0;
        int wringMinutes = 0;
        int sun = 0;
        int wind = 0;
        final Towels towels = new Towels();
        final Bathers bathers = new Bathers();
        final Plan plan = new Plan();
        /** Of k wipes and so many drops: what the wind leaves of them in the minutes of k wipes. */
        final int[][] afterWipes = new int[BATHERS + 1][MOST_DROPS + 1];
        final int[] afterWring = new int[MOST_DROPS + 1];

        void clear() {
            towels.clear();
            bathers.count = 0;
            plan.count = 0;
        }

        int blown(int drops) {
            return drops * wind / 100;
        }

        int leftByWind(int drops, int minutes) {
            int left = drops;
            for (int m = 0; m < minutes; m++) {
                left -= blown(left);
            }
            return left;
        }

        /** All that follows from what is told alone. */
        void reckon() {
            for (int d = 0; d <= MOST_DROPS; d++) {
                afterWring[d] = leftByWind(d, wringMinutes);
                afterWipes[0][d] = d;
                for (int k = 1; k <= BATHERS; k++) {
                    afterWipes[k][d] = leftByWind(afterWipes[k - 1][d], wipeMinutes);
                }
            }
            plan.follow(this);
        }
    }

    /** How wet and cold all are at one minute. */
    private static final class Scene {
        final int[] drops = new int[BATHERS];
        final int[] cold = new int[BATHERS];
        final int[] patch = new int[PATCHES];
        /** Who has shaken, as bits. */
        int shaken = 0;
        int minute = 0;
        int lost = 0;

        void begin(Shore s) {
            for (int b = 0; b < s.bathers.count; b++) {
                drops[b] = s.bathers.wet[b];
                cold[b] = 0;
            }
            for (int p = 0; p < s.towels.patches; p++) {
                patch[p] = s.towels.wet[p];
            }
            shaken = 0;
            minute = 0;
            lost = 0;
        }

        void copy(Scene from) {
            System.arraycopy(from.drops, 0, drops, 0, BATHERS);
            System.arraycopy(from.cold, 0, cold, 0, BATHERS);
            System.arraycopy(from.patch, 0, patch, 0, PATCHES);
            shaken = from.shaken;
            minute = from.minute;
            lost = from.lost;
        }

        boolean isDry(Shore s, int b) {
            return drops[b] <= s.bathers.want[b];
        }

        boolean hasShaken(int b) {
            return (shaken >> b & 1) == 1;
        }

        int notDry(Shore s) {
            int many = 0;
            for (int b = 0; b < s.bathers.count; b++) {
                if (!isDry(s, b)) {
                    many++;
                }
            }
            return many;
        }

        int mostDrops(Shore s) {
            int most = 0;
            for (int b = 0; b < s.bathers.count; b++) {
                most = Math.max(most, drops[b]);
            }
            return most;
        }

        int dropsOfAll(Shore s) {
            int all = 0;
            for (int b = 0; b < s.bathers.count; b++) {
                all += drops[b];
            }
            return all;
        }

        int coldOfAll(Shore s) {
            int all = 0;
            for (int b = 0; b < s.bathers.count; b++) {
                all += cold[b];
            }
            return all;
        }

        int leastPatch(Shore s) {
            int least = 0;
            for (int p = 1; p < s.towels.patches; p++) {
                if (patch[p] < patch[least]) {
                    least = p;
                }
            }
            return least;
        }

        int mostOfTowel(Shore s, int t) {
            int most = 0;
            for (int p = s.towels.first[t]; p < s.towels.endOf(t); p++) {
                most = Math.max(most, patch[p]);
            }
            return most;
        }

        /** What passes by a wipe. */
        int amount(Shore s, int b, int p) {
            return passing(s, b, drops[b], p, patch[p]);
        }

        static int passing(Shore s, int b, int wet, int p, int patchWet) {
            int more = wet - patchWet;
            if (more <= 0) {
                return 0;
            }
            int pass = Math.min(more * s.share / 100, s.towels.holds[s.towels.owner[p]] - patchWet);
            if (s.bathers.kind[b] == HAIRY) {
                pass = Math.min(pass, wet - 3);
            }
            return Math.max(pass, 0);
        }

        int doWipe(Shore s, int b, int p) {
            int pass = amount(s, b, p);
            drops[b] -= pass;
            patch[p] += pass;
            letPass(s, s.wipeMinutes);
            return pass;
        }

        int wringable(Shore s, int t) {
            int out = 0;
            for (int p = s.towels.first[t]; p < s.towels.endOf(t); p++) {
                out += Math.max(0, patch[p] - s.wringLeaves);
            }
            return out;
        }

        int doWring(Shore s, int t) {
            int out = wringable(s, t);
            for (int p = s.towels.first[t]; p < s.towels.endOf(t); p++) {
                patch[p] = Math.min(patch[p], s.wringLeaves);
            }
            lost += out;
            letPass(s, s.wringMinutes);
            return out;
        }

        int doHang(Shore s, int t, int minutes) {
            int gone = 0;
            for (int m = 0; m < minutes; m++) {
                gone += shine(s, t);
                letPass(s, 1);
            }
            return gone;
        }

        /** A minute of sun on the patches of a towel: what goes. */
        int shine(Shore s, int t) {
            int gone = 0;
            for (int p = s.towels.first[t]; p < s.towels.endOf(t); p++) {
                int less = patch[p] * s.sun / 100;
                patch[p] -= less;
                gone += less;
            }
            lost += gone;
            return gone;
        }

        /** A dog's others get wetter even if he has nothing: so the plan asks it. */
        void doShake(Shore s, int b) {
            if (hasShaken(b)) {
                return;
            }
            shaken |= 1 << b;
            int before = dropsOfAll(s);
            if (s.bathers.kind[b] == DOG) {
                drops[b] /= 2;
                for (int other = 0; other < s.bathers.count; other++) {
                    if (other != b) {
                        drops[other] = Math.min(MOST_DROPS, drops[other] + 1);
                    }
                }
            } else {
                drops[b] = Math.max(0, drops[b] - 1);
            }
            lost += before - dropsOfAll(s);
        }

        void letPass(Shore s, int minutes) {
            for (int m = 0; m < minutes; m++) {
                for (int b = 0; b < s.bathers.count; b++) {
                    int less = s.blown(drops[b]);
                    drops[b] -= less;
                    lost += less;
                    if (!isDry(s, b)) {
                        cold[b] += s.bathers.chill[b];
                    }
                }
            }
            minute += minutes;
        }
    }

    /** The steps told, and what is behind each number of them. */
    private static final class Plan {
        int count = 0;
        int firstUseless = WITHOUT;
        final int[] sort = new int[STEPS];
        final int[] who = new int[STEPS];
        final int[] what = new int[STEPS];
        final int[] minutes = new int[STEPS];
        final Scene[] behind = new Scene[STEPS + 1];

        Plan() {
            for (int k = 0; k <= STEPS; k++) {
                behind[k] = new Scene();
            }
        }

        void add(int stepSort, int bather, int thing, int length) {
            if (count >= STEPS) {
                return;
            }
            sort[count] = stepSort;
            who[count] = bather;
            what[count] = thing;
            minutes[count] = length;
            count++;
        }

        void follow(Shore s) {
            firstUseless = WITHOUT;
            behind[0].begin(s);
            for (int i = 0; i < count; i++) {
                if (firstUseless == WITHOUT && isUseless(s, behind[i], i)) {
                    firstUseless = i;
                }
                behind[i + 1].copy(behind[i]);
                take(s, behind[i + 1], i);
            }
        }

        boolean isUseless(Shore s, Scene at, int i) {
            switch (sort[i]) {
                case WIPES: return at.amount(s, who[i], what[i]) == 0;
                case WRINGS: return at.wringable(s, what[i]) == 0;
                case HANGS: return at.mostOfTowel(s, what[i]) == 0;
                default: return at.hasShaken(who[i]) || at.drops[who[i]] == 0;
            }
        }

        void take(Shore s, Scene at, int i) {
            switch (sort[i]) {
                case WIPES: at.doWipe(s, who[i], what[i]); break;
                case WRINGS: at.doWring(s, what[i]); break;
                case HANGS: at.doHang(s, what[i], minutes[i]); break;
                default: at.doShake(s, who[i]); break;
            }
        }

        int firstDry(Shore s, int b) {
            for (int k = 0; k <= count; k++) {
                if (behind[k].isDry(s, b)) {
                    return k;
                }
            }
            return WITHOUT;
        }

        int lateOnes(Shore s) {
            int bits = 0;
            for (int b = 0; b < s.bathers.count; b++) {
                if (s.bathers.home[b] != WITHOUT && !isInTime(s, b)) {
                    bits |= 1 << b;
                }
            }
            return bits;
        }

        /** No minute goes back, so the first step behind which one is dry is the earliest. */
        boolean isInTime(Shore s, int b) {
            int k = firstDry(s, b);
            return k != WITHOUT && behind[k].minute <= s.bathers.home[b];
        }
    }

    /** An order of the bathers, walked from some scene on, each wiped by the patch that has least. */
    private static final class Walk {
        final int[] order = new int[BATHERS];
        /** Scenes behind the first k wipes, so that a change needs no wipe ahead of it again. */
        final Scene[] behind = new Scene[BATHERS + 1];

        Walk() {
            for (int k = 0; k <= BATHERS; k++) {
                behind[k] = new Scene();
            }
        }

        void arrange(Shore s, Scene from, int rule) {
            for (int n = 0; n < s.bathers.count; n++) {
                int place = n;
                int weight = weigh(s, from, rule, n);
                while (place > 0 && weigh(s, from, rule, order[place - 1]) > weight) {
                    order[place] = order[place - 1];
                    place--;
                }
                order[place] = n;
            }
        }

        /** Who weighs least is first. */
        static int weigh(Shore s, Scene from, int rule, int b) {
            switch (rule) {
                case 1: return s.bathers.size[b];
                case 2: return -s.bathers.size[b];
                case 3: return -from.drops[b];
                case 4: return -s.bathers.chill[b];
                default: return 0;
            }
        }

        /** Where the walk starts from. */
        void leave(Scene from) {
            behind[0].copy(from);
        }

        /** Walks on from a place of the order: the scene behind it all. */
        Scene goOn(Shore s, int place) {
            for (int k = place; k < s.bathers.count; k++) {
                Scene next = behind[k + 1];
                next.copy(behind[k]);
                next.doWipe(s, order[k], next.leastPatch(s));
            }
            return behind[s.bathers.count];
        }

        /** Makes the order the next one by numbers: the first place that changes, or NONE behind the last order. */
        int change(int n) {
            int place = n - 2;
            while (place >= 0 && order[place] > order[place + 1]) {
                place--;
            }
            if (place < 0) {
                return NONE;
            }
            int other = n - 1;
            while (other > place && order[other] < order[place]) {
                other--;
            }
            swap(place, other);
            int high = n - 1;
            for (int low = place + 1; low < high; low++) {
                swap(low, high);
                high--;
            }
            return place;
        }

        void swap(int i, int j) {
            int held = order[i];
            order[i] = order[j];
            order[j] = held;
        }
    }

    /** What is best from now on: of all orders, of all patches for bathers, of all wringings. */
    private static final class Choices {
        private boolean ordersKnown = false;
        private boolean sharingKnown = false;
        private boolean wringingKnown = false;
        int leastWettest = 0;
        int leastCold = 0;
        int leastShared = 0;
        int wringAt = WITHOUT;
        int wrungWettest = 0;
        final int[] byWettest = new int[BATHERS];
        final int[] byCold = new int[BATHERS];
        final int[] patchOf = new int[BATHERS];
        private final int[] trial = new int[BATHERS];
        /** What the patches have behind the first b wipes of a sharing. */
        private final int[][] patch = new int[BATHERS + 1][PATCHES];

        void forget() {
            ordersKnown = false;
            sharingKnown = false;
            wringingKnown = false;
        }

        void learnOrders(Shore s, Scene now, Walk walk) {
            if (ordersKnown) {
                return;
            }
            ordersKnown = true;
            leastWettest = ABOVE_ALL;
            leastCold = ABOVE_ALL;
            walk.arrange(s, now, 0);
            walk.leave(now);
            Scene end = walk.goOn(s, 0);
            int place = 0;
            for (int i = 0; i < ALL_ORDERS && place != NONE; i++) {
                weigh(s, end, walk.order);
                place = walk.change(s.bathers.count);
                if (place != NONE) {
                    end = walk.goOn(s, place);
                }
            }
        }

        private void weigh(Shore s, Scene end, int[] order) {
            int wettest = end.mostDrops(s);
            if (wettest < leastWettest) {
                leastWettest = wettest;
                System.arraycopy(order, 0, byWettest, 0, BATHERS);
            }
            int cold = end.coldOfAll(s);
            if (cold < leastCold) {
                leastCold = cold;
                System.arraycopy(order, 0, byCold, 0, BATHERS);
            }
        }

        void learnSharing(Shore s, Scene now) {
            if (sharingKnown) {
                return;
            }
            sharingKnown = true;
            leastShared = ABOVE_ALL;
            System.arraycopy(now.patch, 0, patch[0], 0, PATCHES);
            shareOut(this, s, now, 0, 0);
        }

        /**
         * A bather's drops at the end are settled by his own wipe and the wind, so a choice that
         * leaves him no less than the least so far needs no look at those behind him.
         */
        private static void shareOut(Choices c, Shore s, Scene now, int b, int wettest) {
            int n = s.bathers.count;
            if (b >= n || b >= BATHERS) {
                c.leastShared = wettest;
                System.arraycopy(c.trial, 0, c.patchOf, 0, BATHERS);
                return;
            }
            int wet = s.afterWipes[b][now.drops[b]];
            for (int p = 0; p < s.towels.patches; p++) {
                int pass = Scene.passing(s, b, wet, p, c.patch[b][p]);
                int worst = Math.max(wettest, s.afterWipes[n - b][wet - pass]);
                if (worst < c.leastShared) {
                    c.trial[b] = p;
                    System.arraycopy(c.patch[b], 0, c.patch[b + 1], 0, PATCHES);
                    c.patch[b + 1][p] += pass;
                    shareOut(c, s, now, b + 1, worst);
                }
            }
        }

        void learnWringing(Shore s, Scene now, Scene trialScene) {
            if (wringingKnown) {
                return;
            }
            wringingKnown = true;
            wringAt = WITHOUT;
            wrungWettest = wettestWith(s, now, trialScene, NONE, 0);
            for (int place = 0; place <= s.bathers.count; place++) {
                for (int t = 0; t < s.towels.count; t++) {
                    int wettest = wettestWith(s, now, trialScene, place, t);
                    if (wettest < wrungWettest) {
                        wrungWettest = wettest;
                        wringAt = 10 * place + t;
                    }
                }
            }
        }

        /** The wettest behind the order by numbers, a towel wrung at a place (NONE: nowhere). */
        private static int wettestWith(Shore s, Scene now, Scene trialScene, int place, int t) {
            trialScene.copy(now);
            for (int b = 0; b < s.bathers.count; b++) {
                if (b == place) {
                    trialScene.doWring(s, t);
                }
                trialScene.doWipe(s, b, trialScene.leastPatch(s));
            }
            if (place == s.bathers.count) {
                trialScene.doWring(s, t);
            }
            return trialScene.mostDrops(s);
        }
    }

    /** The next one, two or three steps. */
    private static final class Nexts {
        final boolean[] known = new boolean[MOST_NEXT + 1];
        final int[] wet = new int[MOST_NEXT + 1];
        final int[] minutes = new int[MOST_NEXT + 1];
        final int[][] steps = new int[MOST_NEXT + 1][MOST_NEXT];
        final int[] trial = new int[MOST_NEXT];
        final Scene[] behind = new Scene[MOST_NEXT];

        Nexts() {
            for (int k = 0; k < MOST_NEXT; k++) {
                behind[k] = new Scene();
            }
        }

        void forget() {
            for (int n = 0; n <= MOST_NEXT; n++) {
                known[n] = false;
            }
        }

        void learn(Shore s, Scene now, int n) {
            if (known[n]) {
                return;
            }
            known[n] = true;
            wet[n] = ABOVE_ALL;
            minutes[n] = ABOVE_ALL;
            behind[0].copy(now);
            goOn(this, s, n, 0);
        }

        private static void goOn(Nexts x, Shore s, int n, int k) {
            if (k >= n - 1 || k >= MOST_NEXT - 1) {
                x.tryLast(s, n, k);
                return;
            }
            Scene then = x.behind[k + 1];
            for (int b = 0; b < s.bathers.count; b++) {
                for (int p = 0; p < s.towels.patches; p++) {
                    x.trial[k] = 10 * b + p;
                    then.copy(x.behind[k]);
                    then.doWipe(s, b, p);
                    goOn(x, s, n, k + 1);
                }
            }
            for (int t = 0; t < s.towels.count; t++) {
                x.trial[k] = 100 + t;
                then.copy(x.behind[k]);
                then.doWring(s, t);
                goOn(x, s, n, k + 1);
            }
        }

        /** The last step: only who is dry behind it counts, so no scene is made of it. */
        void tryLast(Shore s, int n, int k) {
            Scene at = behind[k];
            int[] left = s.afterWipes[1];
            int stillWet = notDry(s, at, left);
            int taken = at.minute - behind[0].minute;
            for (int b = 0; b < s.bathers.count; b++) {
                int want = s.bathers.want[b];
                int others = left[at.drops[b]] > want ? stillWet - 1 : stillWet;
                for (int p = 0; p < s.towels.patches; p++) {
                    boolean staysWet = left[at.drops[b] - at.amount(s, b, p)] > want;
                    trial[k] = 10 * b + p;
                    offer(n, staysWet ? others + 1 : others, taken + s.wipeMinutes);
                }
            }
            int wetAfterWring = notDry(s, at, s.afterWring);
            for (int t = 0; t < s.towels.count; t++) {
                trial[k] = 100 + t;
                offer(n, wetAfterWring, taken + s.wringMinutes);
            }
        }

        static int notDry(Shore s, Scene at, int[] left) {
            int many = 0;
            for (int b = 0; b < s.bathers.count; b++) {
                if (left[at.drops[b]] > s.bathers.want[b]) {
                    many++;
                }
            }
            return many;
        }

        void offer(int n, int many, int taken) {
            if (many < wet[n] || many == wet[n] && taken < minutes[n]) {
                wet[n] = many;
                minutes[n] = taken;
                System.arraycopy(trial, 0, steps[n], 0, n);
            }
        }
    }

    /** The orders from the beginning that fit the patches seen. */
    private static final class Fits {
        static final int BITS = 3;

        boolean known = false;
        int count = 0;
        /** Each order in one number, three bits a place. */
        final int[] orders = new int[ALL_ORDERS];
        /** The places one has in some of them, as bits. */
        final int[] places = new int[BATHERS];
        /** How many leave a patch with so many drops. */
        final int[][] leaving = new int[PATCHES][MOST_DROPS + 1];
        final Scene beginning = new Scene();
        int lookPatch = NONE;
        int lookLeft = 0;

        void learn(Shore s, Walk walk) {
            if (known) {
                return;
            }
            known = true;
            clear();
            beginning.begin(s);
            walk.arrange(s, beginning, 0);
            walk.leave(beginning);
            Scene end = walk.goOn(s, 0);
            int place = 0;
            for (int i = 0; i < ALL_ORDERS && place != NONE; i++) {
                if (agrees(s, end)) {
                    add(s, end, walk.order);
                }
                place = walk.change(s.bathers.count);
                if (place != NONE) {
                    end = walk.goOn(s, place);
                }
            }
            chooseLook(s);
        }

        void clear() {
            count = 0;
            for (int b = 0; b < BATHERS; b++) {
                places[b] = 0;
            }
            for (int p = 0; p < PATCHES; p++) {
                for (int d = 0; d <= MOST_DROPS; d++) {
                    leaving[p][d] = 0;
                }
            }
        }

        static boolean agrees(Shore s, Scene end) {
            for (int p = 0; p < s.towels.patches; p++) {
                if (s.towels.isSeen(p) && s.towels.seen[p] != end.patch[p]) {
                    return false;
                }
            }
            return true;
        }

        void add(Shore s, Scene end, int[] order) {
            if (count >= ALL_ORDERS) {
                return;
            }
            int packed = 0;
            for (int k = 0; k < s.bathers.count; k++) {
                packed |= order[k] << BITS * k;
                places[order[k]] |= 1 << k;
            }
            orders[count] = packed;
            count++;
            for (int p = 0; p < s.towels.patches; p++) {
                leaving[p][end.patch[p]]++;
            }
        }

        int whoAt(int i, int k) {
            return orders[i] >> BITS * k & 7;
        }

        int onlyPlace(int b) {
            int only = WITHOUT;
            for (int k = 0; k < BATHERS; k++) {
                if (places[b] == 1 << k) {
                    only = k;
                }
            }
            return only;
        }

        void chooseLook(Shore s) {
            lookPatch = NONE;
            lookLeft = ABOVE_ALL;
            for (int p = 0; p < s.towels.patches; p++) {
                int left = mostLeft(p);
                if (count > 0 && !s.towels.isSeen(p) && left < lookLeft) {
                    lookPatch = p;
                    lookLeft = left;
                }
            }
        }

        int mostLeft(int p) {
            int most = 0;
            for (int d = 0; d <= MOST_DROPS; d++) {
                most = Math.max(most, leaving[p][d]);
            }
            return most;
        }
    }

    /** The acts that can be undone, and the marks. */
    private static final class History {
        static final int KEPT = 16;
        static final int MARKS = 3;

        int count = 0;
        int marked = 0;
        /** Where the next one goes: a ring, so the oldest gives way. */
        private int top = 0;
        private final Scene[] kept = new Scene[KEPT];
        private final Scene[] marks = new Scene[MARKS];

        History() {
            for (int i = 0; i < KEPT; i++) {
                kept[i] = new Scene();
            }
            for (int i = 0; i < MARKS; i++) {
                marks[i] = new Scene();
            }
        }

        void clear() {
            count = 0;
            marked = 0;
        }

        void keep(Scene now) {
            kept[top].copy(now);
            top = top == KEPT - 1 ? 0 : top + 1;
            count = Math.min(count + 1, KEPT);
        }

        boolean takeBack(Scene now) {
            if (count == 0) {
                return false;
            }
            top = top == 0 ? KEPT - 1 : top - 1;
            now.copy(kept[top]);
            count--;
            return true;
        }

        int addMark(Scene now) {
            if (marked >= MARKS) {
                return NONE;
            }
            marks[marked].copy(now);
            marked++;
            return marked - 1;
        }

        boolean goBack(int mark, Scene now) {
            if (mark < 0 || mark >= marked) {
                return false;
            }
            now.copy(marks[mark]);
            count = 0;
            return true;
        }
    }

    /** The tape, and the reading of its text, token by token from the left up to the first fault. */
    private static final class Tape {
        static final int END = 0;
        static final int WORD = 1;
        static final int WHOLE = 2;
        static final int SIGN = 3;
        static final int UNKNOWN = 4;

        static final int FORM = 1;
        static final int NOT_TOLD = 2;
        static final int AGAIN = 3;
        static final int BOUNDS = 4;
        static final int MANY = 5;
        static final int LACKS = 6;

        static final int SHORE_LINE = 0;
        static final int TOWEL_LINE = 1;
        static final int BATHER_LINE = 2;
        static final int HOME_LINE = 3;
        static final int WIPES_LINE = 4;
        static final int WRINGS_LINE = 5;
        static final int HANGS_LINE = 6;
        static final int SHAKES_LINE = 7;
        static final int SEEN_LINE = 8;

        static final int NAMES = TOWELS + BATHERS;
        static final int WORD_LETTERS = 8;
        static final int WHOLE_DIGITS = 3;

        int length = 0;
        private final byte[] text = new byte[TAPE_BYTES];
        private int end = 0;
        /** Behind the latest token. */
        private int at = 0;
        private int token = END;
        private int start = 0;
        private int value = 0;
        private int found = 0;
        /** A shore of its own, so that a faulty text leaves the one that is used as it is. */
        private Shore into = new Shore();
        private boolean shoreTold = false;
        private int names = 0;
        private final int[] nameStart = new int[NAMES];
        private final int[] nameEnd = new int[NAMES];
        private final boolean[] nameOfTowel = new boolean[NAMES];
        private final int[] nameNumber = new int[NAMES];
        int place = NONE;

        void append(int number) {
            for (int shift = 24; shift >= 0; shift -= 8) {
                if (length < TAPE_BYTES) {
                    text[length] = (byte) (number >> shift);
                    length++;
                }
            }
        }

        /** Gives the shore that was read, and takes one to read the next into. */
        Shore trade(Shore old) {
            Shore fresh = into;
            into = old;
            return fresh;
        }

        /** The fault of the first n bytes, or 0; the tape is empty then. */
        int read(int n) {
            end = Math.min(n, length);
            length = 0;
            at = 0;
            found = 0;
            place = NONE;
            into.clear();
            shoreTold = false;
            names = 0;
            boolean goesOn = true;
            for (int lines = 0; lines <= TAPE_BYTES && goesOn; lines++) {
                goesOn = readLine() && isFollowed();
            }
            return found;
        }

        /** False, as every reading answers that meets a fault. */
        private boolean fail(int number) {
            found = number;
            place = start;
            return false;
        }

        /** Behind a line: whether there is another. */
        private boolean isFollowed() {
            scan();
            if (isSign(';')) {
                return true;
            }
            if (token != END) {
                return fail(FORM);
            }
            boolean lacks = into.towels.count == 0 || into.bathers.count == 0;
            return lacks ? fail(LACKS) : false;
        }

        private boolean readLine() {
            scan();
            int sort = lineSort();
            if (sort == NONE) {
                return fail(FORM);
            }
            if (sort == SHORE_LINE) {
                return shoreTold ? fail(AGAIN) : readShore();
            }
            if (!hasRoom(sort)) {
                return fail(MANY);
            }
            if (!shoreTold) {
                return fail(LACKS);
            }
            switch (sort) {
                case TOWEL_LINE: return readTowel();
                case BATHER_LINE: return readBather();
                case HOME_LINE: return readHome();
                case WIPES_LINE: return readWipes();
                case WRINGS_LINE: return readWrings();
                case HANGS_LINE: return readHangs();
                case SHAKES_LINE: return readShakes();
                default: return readSeen();
            }
        }

        private boolean hasRoom(int sort) {
            switch (sort) {
                case TOWEL_LINE: return into.towels.count < TOWELS;
                case BATHER_LINE: return into.bathers.count < BATHERS;
                case HOME_LINE: return true;
                case SEEN_LINE: return into.towels.seenCount < PATCHES;
                default: return into.plan.count < STEPS;
            }
        }

        /** The sort of line that the latest word begins, or NONE; such a word is no name. */
        private int lineSort() {
            if (isWord("shore")) {
                return SHORE_LINE;
            }
            if (isWord("towel")) {
                return TOWEL_LINE;
            }
            if (isWord("bather")) {
                return BATHER_LINE;
            }
            if (isWord("home")) {
                return HOME_LINE;
            }
            if (isWord("wipes")) {
                return WIPES_LINE;
            }
            if (isWord("wrings")) {
                return WRINGS_LINE;
            }
            if (isWord("hangs")) {
                return HANGS_LINE;
            }
            if (isWord("shakes")) {
                return SHAKES_LINE;
            }
            return isWord("seen") ? SEEN_LINE : NONE;
        }

        private boolean readShore() {
            if (!takeWord("share") || !takeWhole(1, 50)) {
                return false;
            }
            into.share = value;
            if (!takeWord("wipe") || !takeWhole(0, 9)) {
                return false;
            }
            into.wipeMinutes = value;
            if (!takeWord("wring") || !takeWhole(0, 99)) {
                return false;
            }
            into.wringLeaves = value;
            if (!takeSign(',') || !takeWhole(0, 9)) {
                return false;
            }
            into.wringMinutes = value;
            if (!takeWord("sun") || !takeWhole(0, 50)) {
                return false;
            }
            into.sun = value;
            if (!takeWord("wind") || !takeWhole(0, 50)) {
                return false;
            }
            into.wind = value;
            shoreTold = true;
            return true;
        }

        private boolean readTowel() {
            if (!takeNewName(true, into.towels.count) || !takeWord("patches") || !takeWhole(1, 4)) {
                return false;
            }
            int patches = value;
            if (into.towels.patches + patches > PATCHES) {
                return fail(MANY);
            }
            if (!takeWord("holds") || !takeWhole(1, MOST_DROPS)) {
                return false;
            }
            int holds = value;
            if (!takeWord("wet") || !takeWhole(0, holds)) {
                return false;
            }
            into.towels.add(patches, holds, value);
            return true;
        }

        private boolean readBather() {
            Bathers bathers = into.bathers;
            int b = bathers.count;
            if (b >= BATHERS) {
                return fail(MANY);
            }
            if (!takeNewName(false, b) || !takeKind()) {
                return false;
            }
            bathers.kind[b] = value;
            if (!takeWord("wet") || !takeWhole(0, MOST_DROPS)) {
                return false;
            }
            bathers.wet[b] = value;
            if (!takeWord("cold") || !takeWhole(0, 9)) {
                return false;
            }
            bathers.chill[b] = bathers.kind[b] == SMALL ? 2 * value : value;
            if (!takeWord("want") || !takeWhole(0, MOST_DROPS)) {
                return false;
            }
            bathers.want[b] = value;
            if (!takeWord("size") || !takeWhole(1, 9)) {
                return false;
            }
            bathers.size[b] = value;
            bathers.home[b] = WITHOUT;
            bathers.count++;
            return true;
        }

        private boolean readHome() {
            if (!takeName(false)) {
                return false;
            }
            int b = value;
            if (into.bathers.home[b] != WITHOUT) {
                return fail(AGAIN);
            }
            if (!takeWhole(0, MOST_MINUTES)) {
                return false;
            }
            into.bathers.home[b] = value;
            return true;
        }

        private boolean readSeen() {
            if (!takeName(true)) {
                return false;
            }
            int t = value;
            if (!takeWhole(0, into.towels.size[t] - 1)) {
                return false;
            }
            int p = into.towels.first[t] + value;
            if (into.towels.isSeen(p)) {
                return fail(AGAIN);
            }
            if (!takeWhole(0, MOST_DROPS)) {
                return false;
            }
            into.towels.seen[p] = value;
            into.towels.seenCount++;
            return true;
        }

        private boolean readWipes() {
            if (!takeName(false)) {
                return false;
            }
            int b = value;
            if (!takeName(true)) {
                return false;
            }
            int t = value;
            if (!takeWhole(0, into.towels.size[t] - 1)) {
                return false;
            }
            into.plan.add(WIPES, b, into.towels.first[t] + value, WITHOUT);
            return true;
        }

        private boolean readWrings() {
            if (!takeName(true)) {
                return false;
            }
            into.plan.add(WRINGS, WITHOUT, value, WITHOUT);
            return true;
        }

        private boolean readHangs() {
            if (!takeName(true)) {
                return false;
            }
            int t = value;
            if (!takeWhole(1, ACT_MINUTES)) {
                return false;
            }
            into.plan.add(HANGS, WITHOUT, t, value);
            return true;
        }

        private boolean readShakes() {
            if (!takeName(false)) {
                return false;
            }
            into.plan.add(SHAKES, value, WITHOUT, WITHOUT);
            return true;
        }

        private boolean takeWord(String word) {
            scan();
            return isWord(word) ? true : fail(FORM);
        }

        private boolean takeSign(char sign) {
            scan();
            return isSign(sign) ? true : fail(FORM);
        }

        private boolean takeWhole(int low, int high) {
            scan();
            if (token != WHOLE) {
                return fail(FORM);
            }
            return value < low || value > high ? fail(BOUNDS) : true;
        }

        private boolean takeKind() {
            scan();
            if (isWord("plain")) {
                value = PLAIN;
            } else if (isWord("hairy")) {
                value = HAIRY;
            } else if (isWord("dog")) {
                value = DOG;
            } else if (isWord("small")) {
                value = SMALL;
            } else {
                return fail(FORM);
            }
            return true;
        }

        private boolean takeNewName(boolean ofTowel, int number) {
            scan();
            if (token != WORD || lineSort() != NONE) {
                return fail(FORM);
            }
            if (findName() != NONE) {
                return fail(AGAIN);
            }
            if (names < NAMES) {
                nameStart[names] = start;
                nameEnd[names] = at;
                nameOfTowel[names] = ofTowel;
                nameNumber[names] = number;
                names++;
            }
            return true;
        }

        /** A name told before; the value is the number of its towel or bather. */
        private boolean takeName(boolean ofTowel) {
            scan();
            if (token != WORD || lineSort() != NONE) {
                return fail(FORM);
            }
            int i = findName();
            if (i == NONE || nameOfTowel[i] != ofTowel) {
                return fail(NOT_TOLD);
            }
            value = nameNumber[i];
            return true;
        }

        private int findName() {
            for (int i = 0; i < names; i++) {
                if (isName(i)) {
                    return i;
                }
            }
            return NONE;
        }

        private boolean isName(int i) {
            int letters = at - start;
            if (nameEnd[i] - nameStart[i] != letters) {
                return false;
            }
            for (int j = 0; j < letters; j++) {
                if (text[nameStart[i] + j] != text[start + j]) {
                    return false;
                }
            }
            return true;
        }

        private boolean isWord(String word) {
            if (token != WORD || at - start != word.length()) {
                return false;
            }
            for (int j = 0; j < word.length(); j++) {
                if (text[start + j] != word.charAt(j)) {
                    return false;
                }
            }
            return true;
        }

        private boolean isSign(char sign) {
            return token == SIGN && text[start] == sign;
        }

        /** The next token: its kind, where it starts, and a whole's value. */
        private void scan() {
            while (at < end && text[at] == ' ') {
                at++;
            }
            start = at;
            value = 0;
            if (at >= end) {
                token = END;
            } else if (isLetter(text[at])) {
                scanWord();
            } else if (isDigit(text[at])) {
                scanWhole();
            } else {
                token = text[at] == ';' || text[at] == ',' ? SIGN : UNKNOWN;
                at++;
            }
        }

        private void scanWord() {
            while (at < end && isLetter(text[at])) {
                at++;
            }
            token = at - start <= WORD_LETTERS ? WORD : UNKNOWN;
        }

        private void scanWhole() {
            while (at < end && isDigit(text[at])) {
                if (at - start < WHOLE_DIGITS) {
                    value = 10 * value + text[at] - '0';
                }
                at++;
            }
            token = at - start <= WHOLE_DIGITS ? WHOLE : UNKNOWN;
        }

        private static boolean isLetter(byte c) {
            return c >= 'a' && c <= 'z';
        }

        private static boolean isDigit(byte c) {
            return c >= '0' && c <= '9';
        }
    }
}
