import java.util.ArrayList;
import java.util.Arrays;
import java.util.List;
import java.util.NoSuchElementException;
import java.util.regex.Matcher;
import java.util.regex.Pattern;

/**
 * The document again, written a second time in the plainest way: every choice is tried whole, nothing is
 * kept between calls, the text is read from a list of tokens by patterns.
 */
final class Model {
    private static final List<String> RESERVED =
        List.of("shore", "towel", "bather", "home", "wipes", "wrings", "hangs", "shakes", "seen");
    private static final List<String> KINDS = List.of("plain", "hairy", "dog", "small");

    /** A fault of a text. */
    private static final class Fault extends RuntimeException {
        private static final long serialVersionUID = 1;
        final int number;
        final int place;

        Fault(int number, int place) {
            super(null, null, false, false);
            this.number = number;
            this.place = place;
        }
    }

    /** A call that is refused. */
    private static final class Refused extends RuntimeException {
        private static final long serialVersionUID = 1;
        final int trouble;

        Refused(int trouble) {
            super(null, null, false, false);
            this.trouble = trouble;
        }
    }

    private static final class Token {
        final String text;
        final int place;

        Token(String text, int place) {
            this.text = text;
            this.place = place;
        }

        boolean isWord() {
            return text.matches("[a-z]{1,8}");
        }

        boolean isWhole() {
            return text.matches("[0-9]{1,3}");
        }

        boolean isName() {
            return isWord() && !RESERVED.contains(text);
        }
    }

    private static final class Bather {
        String name;
        int kind, wet, cold, want, size;
        int home = -2;
    }

    private static final class Towel {
        String name;
        int patches, holds, wet, first;
    }

    private static final class Told {
        int share, wipe, leaves, wring, sun, wind;
        final List<Towel> towels = new ArrayList<>();
        final List<Bather> bathers = new ArrayList<>();
        final List<int[]> steps = new ArrayList<>();
        final List<int[]> seen = new ArrayList<>();

        int patches() {
            return towels.stream().mapToInt(t -> t.patches).sum();
        }

        int owner(int p) {
            for (int t = 0; ; t++) {
                if (p < towels.get(t).first + towels.get(t).patches) {
                    return t;
                }
            }
        }
    }

    private final class State {
        int[] wet, cold, patch;
        boolean[] shaken;
        int minute, lost;

        State() {
            int n = told.bathers.size();
            wet = told.bathers.stream().mapToInt(b -> b.wet).toArray();
            cold = new int[n];
            shaken = new boolean[n];
            patch = new int[told.patches()];
            for (int p = 0; p < patch.length; p++) {
                patch[p] = told.towels.get(told.owner(p)).wet;
            }
        }

        State(State from) {
            wet = from.wet.clone();
            cold = from.cold.clone();
            patch = from.patch.clone();
            shaken = from.shaken.clone();
            minute = from.minute;
            lost = from.lost;
        }

        boolean dry(int b) {
            return wet[b] <= told.bathers.get(b).want;
        }

        int pass(int b, int p) {
            int pass = 0;
            if (wet[b] > patch[p]) {
                pass = (wet[b] - patch[p]) * told.share / 100;
                pass = Math.min(pass, told.towels.get(told.owner(p)).holds - patch[p]);
                if (told.bathers.get(b).kind == 1) {
                    pass = Math.min(pass, Math.max(0, wet[b] - 3));
                }
            }
            return pass;
        }

        void minute() {
            for (int b = 0; b < wet.length; b++) {
                int gone = wet[b] * told.wind / 100;
                wet[b] -= gone;
                lost += gone;
                Bather who = told.bathers.get(b);
                if (wet[b] > who.want) {
                    cold[b] += who.kind == 3 ? who.cold * 2 : who.cold;
                }
            }
            minute++;
        }

        void minutes(int n) {
            for (int i = 0; i < n; i++) {
                minute();
            }
        }

        int wipe(int b, int p) {
            int pass = pass(b, p);
            wet[b] -= pass;
            patch[p] += pass;
            minutes(told.wipe);
            return pass;
        }

        int wringable(int t) {
            int out = 0;
            for (int p = 0; p < patch.length; p++) {
                if (told.owner(p) == t && patch[p] > told.leaves) {
                    out += patch[p] - told.leaves;
                }
            }
            return out;
        }

        int wring(int t) {
            int out = wringable(t);
            for (int p = 0; p < patch.length; p++) {
                if (told.owner(p) == t && patch[p] > told.leaves) {
                    patch[p] = told.leaves;
                }
            }
            lost += out;
            minutes(told.wring);
            return out;
        }

        int inTowel(int t) {
            int all = 0;
            for (int p = 0; p < patch.length; p++) {
                all += told.owner(p) == t ? patch[p] : 0;
            }
            return all;
        }

        int hang(int t, int minutes) {
            int before = inTowel(t);
            for (int i = 0; i < minutes; i++) {
                for (int p = 0; p < patch.length; p++) {
                    if (told.owner(p) == t) {
                        patch[p] -= patch[p] * told.sun / 100;
                    }
                }
                minute();
            }
            int gone = before - inTowel(t);
            lost += gone;
            return gone;
        }

        void shake(int b) {
            if (shaken[b]) {
                return;
            }
            shaken[b] = true;
            if (told.bathers.get(b).kind == 2) {
                int half = wet[b] / 2;
                lost += wet[b] - half;
                wet[b] = half;
                for (int o = 0; o < wet.length; o++) {
                    if (o != b && wet[o] < 99) {
                        wet[o]++;
                        lost--;
                    }
                }
            } else if (wet[b] > 0) {
                wet[b]--;
                lost++;
            }
        }

        int least() {
            int least = 0;
            for (int p = 0; p < patch.length; p++) {
                if (patch[p] < patch[least]) {
                    least = p;
                }
            }
            return least;
        }

        int wettest() {
            return Arrays.stream(wet).max().getAsInt();
        }

        int notDry() {
            int many = 0;
            for (int b = 0; b < wet.length; b++) {
                many += dry(b) ? 0 : 1;
            }
            return many;
        }

        State behind(int[] order) {
            State s = new State(this);
            for (int b : order) {
                s.wipe(b, s.least());
            }
            return s;
        }
    }

    private byte[] tape = new byte[0];
    private Told told = new Told();
    private State now = new State();
    private final List<State> undo = new ArrayList<>();
    private final List<State> marks = new ArrayList<>();
    private int fault = 0;
    private int place = -1;
    private int trouble = 0;

    // ---- the text

    private static List<Token> tokens(String text) {
        List<Token> all = new ArrayList<>();
        Matcher m = Pattern.compile("[a-z]+|[0-9]+|[^ ]", Pattern.DOTALL).matcher(text);
        while (m.find()) {
            all.add(new Token(m.group(), m.start()));
        }
        all.add(new Token("", text.length()));
        return all;
    }

    private static final class Reading {
        final List<Token> tokens;
        final Told into = new Told();
        int at = 0;

        Reading(String text) {
            tokens = tokens(text);
        }

        Token take() {
            return tokens.get(Math.min(at++, tokens.size() - 1));
        }

        static void check(boolean right, int number, Token token) {
            if (!right) {
                throw new Fault(number, token.place);
            }
        }

        int whole(int low, int high) {
            Token t = take();
            check(t.isWhole(), 1, t);
            int value = Integer.parseInt(t.text);
            check(low <= value && value <= high, 4, t);
            return value;
        }

        void just(String text) {
            Token t = take();
            check(t.text.equals(text), 1, t);
        }

        int batherOf(String name) {
            for (int b = 0; b < into.bathers.size(); b++) {
                if (into.bathers.get(b).name.equals(name)) {
                    return b;
                }
            }
            return -1;
        }

        int towelOf(String name) {
            for (int t = 0; t < into.towels.size(); t++) {
                if (into.towels.get(t).name.equals(name)) {
                    return t;
                }
            }
            return -1;
        }

        String newName() {
            Token t = take();
            check(t.isName(), 1, t);
            check(batherOf(t.text) < 0 && towelOf(t.text) < 0, 3, t);
            return t.text;
        }

        int bather() {
            Token t = take();
            check(t.isName(), 1, t);
            check(batherOf(t.text) >= 0, 2, t);
            return batherOf(t.text);
        }

        int towel() {
            Token t = take();
            check(t.isName(), 1, t);
            check(towelOf(t.text) >= 0, 2, t);
            return towelOf(t.text);
        }

        int patch() {
            Towel t = into.towels.get(towel());
            return t.first + whole(0, t.patches - 1);
        }

        void all() {
            boolean first = true;
            while (true) {
                line(first);
                first = false;
                Token t = take();
                if (t.text.isEmpty()) {
                    check(!into.towels.isEmpty() && !into.bathers.isEmpty(), 6, t);
                    return;
                }
                check(t.text.equals(";"), 1, t);
            }
        }

        void line(boolean first) {
            Token t = take();
            check(RESERVED.contains(t.text), 1, t);
            check(!t.text.equals("shore") || first, 3, t);
            check(!t.text.equals("towel") || into.towels.size() < 3, 5, t);
            check(!t.text.equals("bather") || into.bathers.size() < 6, 5, t);
            check(!t.text.equals("seen") || into.seen.size() < 6, 5, t);
            check(!List.of("wipes", "wrings", "hangs", "shakes").contains(t.text) || into.steps.size() < 12, 5, t);
            check(t.text.equals("shore") || !first, 6, t);
            switch (t.text) {
                case "shore":
                    just("share");
                    into.share = whole(1, 50);
                    just("wipe");
                    into.wipe = whole(0, 9);
                    just("wring");
                    into.leaves = whole(0, 99);
                    just(",");
                    into.wring = whole(0, 9);
                    just("sun");
                    into.sun = whole(0, 50);
                    just("wind");
                    into.wind = whole(0, 50);
                    break;
                case "towel":
                    towelLine();
                    break;
                case "bather":
                    batherLine();
                    break;
                case "home":
                    Token who = tokens.get(at);
                    Bather b = into.bathers.get(bather());
                    check(b.home == -2, 3, who);
                    b.home = whole(0, 240);
                    break;
                case "wipes":
                    int wiped = bather();
                    into.steps.add(new int[] {0, wiped, patch(), -2});
                    break;
                case "wrings":
                    into.steps.add(new int[] {1, -2, towel(), -2});
                    break;
                case "hangs":
                    int hung = towel();
                    into.steps.add(new int[] {2, -2, hung, whole(1, 60)});
                    break;
                case "shakes":
                    into.steps.add(new int[] {3, bather(), -2, -2});
                    break;
                default:
                    int p = patch();
                    check(into.seen.stream().noneMatch(s -> s[0] == p), 3, tokens.get(at - 1));
                    into.seen.add(new int[] {p, whole(0, 99)});
                    break;
            }
        }

        void towelLine() {
            Towel t = new Towel();
            t.name = newName();
            t.first = into.patches();
            just("patches");
            t.patches = whole(1, 4);
            check(t.first + t.patches <= 6, 5, tokens.get(at - 1));
            just("holds");
            t.holds = whole(1, 99);
            just("wet");
            t.wet = whole(0, t.holds);
            into.towels.add(t);
        }

        void batherLine() {
            Bather b = new Bather();
            b.name = newName();
            Token kind = take();
            check(KINDS.contains(kind.text), 1, kind);
            b.kind = KINDS.indexOf(kind.text);
            just("wet");
            b.wet = whole(0, 99);
            just("cold");
            b.cold = whole(0, 9);
            just("want");
            b.want = whole(0, 99);
            just("size");
            b.size = whole(1, 9);
            into.bathers.add(b);
        }
    }

    // ---- orders

    private List<int[]> orders() {
        List<int[]> all = new ArrayList<>();
        order(new int[told.bathers.size()], 0, all);
        return all;
    }

    private void order(int[] begun, int k, List<int[]> all) {
        if (k == begun.length) {
            all.add(begun.clone());
            return;
        }
        for (int b = 0; b < begun.length; b++) {
            boolean free = true;
            for (int i = 0; i < k; i++) {
                free &= begun[i] != b;
            }
            if (free) {
                begun[k] = b;
                order(begun, k + 1, all);
            }
        }
    }

    private int[] byRule(int rule, State from) {
        List<Integer> all = new ArrayList<>();
        for (int b = 0; b < told.bathers.size(); b++) {
            all.add(b);
        }
        all.sort((x, y) -> {
            Bather bx = told.bathers.get(x);
            Bather by = told.bathers.get(y);
            switch (rule) {
                case 1: return bx.size - by.size;
                case 2: return by.size - bx.size;
                case 3: return from.wet[y] - from.wet[x];
                case 4: return by.cold * (by.kind == 3 ? 2 : 1) - bx.cold * (bx.kind == 3 ? 2 : 1);
                default: return 0;
            }
        });
        return all.stream().mapToInt(b -> b).toArray();
    }

    private int aspect(int rule, int what) {
        State s = now.behind(byRule(rule, now));
        int[] answers = {s.wettest(), Arrays.stream(s.cold).sum(), Arrays.stream(s.wet).sum(), s.notDry()};
        return answers[what];
    }

    private int[] bestOrder(boolean byCold) {
        int[] best = null;
        int least = 0;
        for (int[] order : orders()) {
            State s = now.behind(order);
            int value = byCold ? Arrays.stream(s.cold).sum() : s.wettest();
            if (best == null || value < least) {
                best = order;
                least = value;
            }
        }
        return best;
    }

    /** The wettest, then the patches. */
    private int[] share() {
        int n = told.bathers.size();
        int[] best = null;
        int[] pick = new int[n];
        while (true) {
            State s = new State(now);
            for (int b = 0; b < n; b++) {
                s.wipe(b, pick[b]);
            }
            if (best == null || s.wettest() < best[0]) {
                best = new int[n + 1];
                best[0] = s.wettest();
                System.arraycopy(pick, 0, best, 1, n);
            }
            if (!count(pick, told.patches())) {
                return best;
            }
        }
    }

    private static boolean count(int[] digits, int base) {
        for (int i = digits.length - 1; i >= 0; i--) {
            digits[i]++;
            if (digits[i] < base) {
                return true;
            }
            digits[i] = 0;
        }
        return false;
    }

    /** The wringing, then the wettest. */
    private int[] wringing() {
        int n = told.bathers.size();
        int[] best = {-2, now.behind(byRule(0, now)).wettest()};
        for (int ahead = 0; ahead <= n; ahead++) {
            for (int t = 0; t < told.towels.size(); t++) {
                State s = new State(now);
                for (int b = 0; b <= n; b++) {
                    if (b == ahead) {
                        s.wring(t);
                    }
                    if (b < n) {
                        s.wipe(b, s.least());
                    }
                }
                if (s.wettest() < best[1]) {
                    best = new int[] {10 * ahead + t, s.wettest()};
                }
            }
        }
        return best;
    }

    /** How many aren't dry, then the steps. */
    private int[] next(int n) {
        List<Integer> codes = new ArrayList<>();
        for (int b = 0; b < told.bathers.size(); b++) {
            for (int p = 0; p < told.patches(); p++) {
                codes.add(10 * b + p);
            }
        }
        for (int t = 0; t < told.towels.size(); t++) {
            codes.add(100 + t);
        }
        int[] best = null;
        int fewest = 0;
        int[] pick = new int[n];
        do {
            State s = new State(now);
            for (int c : pick) {
                int code = codes.get(c);
                if (code >= 100) {
                    s.wring(code - 100);
                } else {
                    s.wipe(code / 10, code % 10);
                }
            }
            int weight = s.notDry() * 1000 + s.minute - now.minute;
            if (best == null || weight < fewest) {
                fewest = weight;
                best = new int[n + 1];
                best[0] = s.notDry();
                for (int i = 0; i < n; i++) {
                    best[i + 1] = codes.get(pick[i]);
                }
            }
        } while (count(pick, codes.size()));
        return best;
    }

    private List<int[]> fits() {
        List<int[]> all = new ArrayList<>();
        for (int[] order : orders()) {
            State s = new State().behind(order);
            if (told.seen.stream().allMatch(seen -> s.patch[seen[0]] == seen[1])) {
                all.add(order);
            }
        }
        return all;
    }

    private int could(int b) {
        int bits = 0;
        for (int[] order : fits()) {
            for (int k = 0; k < order.length; k++) {
                bits |= order[k] == b ? 1 << k : 0;
            }
        }
        return bits;
    }

    /** The patch, then how many are left at most; null if there is none. */
    private int[] look() {
        int[] best = null;
        for (int p = 0; p < told.patches(); p++) {
            int[] left = new int[100];
            for (int[] order : fits()) {
                left[new State().behind(order).patch[p]]++;
            }
            int most = Arrays.stream(left).max().getAsInt();
            int patch = p;
            boolean seen = told.seen.stream().anyMatch(s -> s[0] == patch);
            if (!seen && most > 0 && (best == null || most < best[1])) {
                best = new int[] {p, most};
            }
        }
        return best;
    }

    /** All wettest together, or how often b is last. */
    private int summer(int rule, int seed, int n, int b) {
        int all = 0;
        for (int day = 0; day < n; day++) {
            State s = new State();
            for (int i = 0; i < s.wet.length; i++) {
                seed = (75 * seed + 74) % 65537;
                s.wet[i] = seed % 99 + 1;
            }
            int[] order = byRule(rule, s);
            if (b >= 0) {
                all += order[order.length - 1] == b ? 1 : 0;
            } else {
                all += s.behind(order).wettest();
            }
        }
        return all;
    }

    /** What the patches have behind an order from the beginning. */
    int[] patchesBehind(int[] order) {
        return new State().behind(order).patch;
    }

    // ---- the plan

    private List<State> plan() {
        List<State> all = new ArrayList<>();
        State s = new State();
        all.add(s);
        for (int[] step : told.steps) {
            s = new State(s);
            switch (step[0]) {
                case 0: s.wipe(step[1], step[2]); break;
                case 1: s.wring(step[2]); break;
                case 2: s.hang(step[2], step[3]); break;
                default: s.shake(step[1]); break;
            }
            all.add(s);
        }
        return all;
    }

    private int judge() {
        List<State> plan = plan();
        for (int i = 0; i < told.steps.size(); i++) {
            int[] step = told.steps.get(i);
            State s = plan.get(i);
            boolean useless;
            switch (step[0]) {
                case 0: useless = s.pass(step[1], step[2]) == 0; break;
                case 1: useless = s.wringable(step[2]) == 0; break;
                case 2: useless = s.inTowel(step[2]) == 0; break;
                default: useless = s.shaken[step[1]] || s.wet[step[1]] == 0; break;
            }
            if (useless) {
                return i;
            }
        }
        return -2;
    }

    private int late() {
        int bits = 0;
        for (int b = 0; b < told.bathers.size(); b++) {
            int home = told.bathers.get(b).home;
            boolean inTime = home == -2;
            for (State s : plan()) {
                inTime |= s.minute <= home && s.dry(b);
            }
            bits |= inTime ? 0 : 1 << b;
        }
        return bits;
    }

    // ---- calls

    private static void refuse(boolean when, int why) {
        if (when) {
            throw new Refused(why);
        }
    }

    private void needShore() {
        refuse(told.bathers.isEmpty(), 1);
    }

    private void needBather(int b) {
        refuse(b < 0 || b >= told.bathers.size(), 1);
    }

    private void needTowel(int t) {
        refuse(t < 0 || t >= told.towels.size(), 1);
    }

    private void needPatch(int p) {
        refuse(p < 0 || p >= told.patches(), 1);
    }

    private void needStep(int k) {
        refuse(k < 0 || k > told.steps.size(), 2);
    }

    private void needRule(int rule) {
        refuse(rule < 0 || rule > 4, 1);
    }

    private void needAspect(int what) {
        refuse(what < 0 || what > 3, 1);
    }

    private void needSummer(int seed, int n) {
        refuse(seed < 0 || seed > 65536 || n < 0 || n > 60, 2);
    }

    private void act() {
        undo.add(new State(now));
        if (undo.size() > 16) {
            undo.remove(0);
        }
    }

    private int pick(int what, int... answers) {
        refuse(what < 0 || what >= answers.length, 1);
        return answers[what];
    }

    /** The answer to a call (a boolean is 1 or 0). */
    long call(String name, int... a) {
        switch (name) {
            case "feed": return feed(a);
            case "fault": return fault;
            case "where": return trouble == 4 ? place : -1;
            case "trouble": return trouble;
            case "size": return size(a[0]);
            case "led":
                for (int b = 0, seen = 0; b < told.bathers.size(); b++) {
                    if (!now.dry(b) && seen++ == a[0]) {
                        return b;
                    }
                }
                throw new NoSuchElementException();
            default:
                try {
                    trouble = 0;
                    return refusable(name, a);
                } catch (Refused e) {
                    trouble = e.trouble;
                    boolean bool = List.of("shake", "undo", "back").contains(name);
                    return bool ? 0 : name.equals("lost") ? -100000 : -1;
                }
        }
    }

    private int feed(int[] a) {
        if (tape.length + 20 > 900) {
            return -1;
        }
        tape = Arrays.copyOf(tape, tape.length + 20);
        for (int i = 0; i < 20; i++) {
            tape[tape.length - 20 + i] = (byte) (a[i / 4] >> 24 - 8 * (i % 4));
        }
        return tape.length;
    }

    private int size(int what) {
        int[] all = {told.share, told.wipe, told.leaves, told.wring, told.sun, told.wind, told.towels.size(),
            told.patches(), told.bathers.size(), told.steps.size(), told.seen.size(), undo.size(), marks.size(),
            tape.length};
        return what < 0 || what >= all.length ? -1 : all[what];
    }

    private int shore(int n) {
        refuse(n < 0 || n > tape.length, 2);
        StringBuilder text = new StringBuilder();
        for (int i = 0; i < n; i++) {
            text.append((char) (tape[i] & 255));
        }
        tape = new byte[0];
        fault = 0;
        try {
            Reading reading = new Reading(text.toString());
            reading.all();
            told = reading.into;
        } catch (Fault e) {
            fault = e.number;
            place = e.place;
            throw new Refused(4);
        }
        now = new State();
        undo.clear();
        marks.clear();
        return told.bathers.size();
    }

    private long refusable(String name, int[] a) {
        switch (name) {
            case "shore": return shore(a[0]);
            case "bather":
                needBather(a[0]);
                Bather b = told.bathers.get(a[0]);
                return pick(a[1], b.kind, now.wet[a[0]], now.cold[a[0]], b.want, b.size, b.home,
                    now.dry(a[0]) ? 1 : 0, now.shaken[a[0]] ? 1 : 0);
            case "towel":
                needTowel(a[0]);
                Towel t = told.towels.get(a[0]);
                return pick(a[1], t.patches, t.holds, t.first);
            case "patch": needPatch(a[0]); return now.patch[a[0]];
            case "towelOf": needPatch(a[0]); return told.owner(a[0]);
            case "passes": needBather(a[0]); needPatch(a[1]); return now.pass(a[0], a[1]);
            case "best":
                needBather(a[0]);
                int best = 0;
                for (int p = 0; p < told.patches(); p++) {
                    best = now.pass(a[0], p) > now.pass(a[0], best) ? p : best;
                }
                return best;
            case "water": needShore(); return Arrays.stream(now.wet).sum() + Arrays.stream(now.patch).sum();
            case "lost": needShore(); return now.lost;
            case "clock": needShore(); return now.minute;
            case "wetOnes": needShore(); return now.notDry();
            case "step":
                refuse(a[0] < 0 || a[0] >= told.steps.size(), 1);
                return pick(a[1], told.steps.get(a[0]));
            case "planWet": needBather(a[1]); needStep(a[0]); return plan().get(a[0]).wet[a[1]];
            case "planPatch": needPatch(a[1]); needStep(a[0]); return plan().get(a[0]).patch[a[1]];
            case "planCold": needBather(a[1]); needStep(a[0]); return plan().get(a[0]).cold[a[1]];
            case "planTime": needShore(); needStep(a[0]); return plan().get(a[0]).minute;
            case "judge": needShore(); return judge();
            case "dryBy":
                needBather(a[0]);
                List<State> plan = plan();
                for (int k = 0; k < plan.size(); k++) {
                    if (plan.get(k).dry(a[0])) {
                        return k;
                    }
                }
                return -2;
            case "late": needShore(); return late();
            default: return chosen(name, a);
        }
    }

    private long chosen(String name, int[] a) {
        switch (name) {
            case "wettest": needShore(); return now.behind(bestOrder(false)).wettest();
            case "wettestAt": needBather(a[0]); return bestOrder(false)[a[0]];
            case "coldest": needShore(); return Arrays.stream(now.behind(bestOrder(true)).cold).sum();
            case "coldestAt": needBather(a[0]); return bestOrder(true)[a[0]];
            case "rule": needShore(); needRule(a[0]); needAspect(a[1]); return aspect(a[0], a[1]);
            case "bestRule":
                needShore();
                needAspect(a[0]);
                int best = 0;
                for (int r = 0; r < 5; r++) {
                    best = aspect(r, a[0]) < aspect(best, a[0]) ? r : best;
                }
                return best;
            case "ruleAt": needRule(a[0]); needBather(a[1]); return byRule(a[0], now)[a[1]];
            case "share": needShore(); return share()[0];
            case "shareAt": needBather(a[0]); return share()[a[0] + 1];
            case "wringing": needShore(); return wringing()[0];
            case "wrung": needShore(); return wringing()[1];
            case "next": needShore(); refuse(a[0] < 1 || a[0] > 3, 2); return next(a[0])[0];
            case "nextAt":
                needShore();
                refuse(a[0] < 1 || a[0] > 3, 2);
                refuse(a[1] < 0 || a[1] >= a[0], 1);
                return next(a[0])[a[1] + 1];
            case "times": needBather(a[0]); return times(a[0]);
            case "sun": needTowel(a[0]); refuse(a[1] < 0 || a[1] > 99, 2); return sun(a[0], a[1]);
            case "wind": needBather(a[0]); return wind(a[0]);
            case "fits": needShore(); return fits().size();
            case "fit":
                needBather(a[1]);
                refuse(a[0] < 0 || a[0] >= fits().size(), 1);
                return fits().get(a[0])[a[1]];
            case "could": needBather(a[0]); return could(a[0]);
            case "surely":
                needBather(a[0]);
                return Integer.bitCount(could(a[0])) == 1 ? Integer.numberOfTrailingZeros(could(a[0])) : -2;
            case "look": needShore(); refuse(look() == null, 6); return look()[0];
            case "lookMost": needShore(); refuse(look() == null, 6); return look()[1];
            case "summer":
                needShore();
                needRule(a[0]);
                needSummer(a[1], a[2]);
                return summer(a[0], a[1], a[2], -1);
            case "sixth":
                needBather(a[0]);
                needRule(a[1]);
                needSummer(a[2], a[3]);
                return summer(a[1], a[2], a[3], a[0]);
            default: return acted(name, a);
        }
    }

    private int times(int b) {
        State s = new State(now);
        for (int often = 0; often <= 60; often++) {
            if (s.dry(b)) {
                return often;
            }
            s.wipe(b, s.least());
        }
        return -2;
    }

    private int sun(int t, int drops) {
        for (int minutes = 0; minutes <= 240; minutes++) {
            State s = new State(now);
            s.hang(t, minutes);
            boolean enough = true;
            for (int p = 0; p < s.patch.length; p++) {
                enough &= told.owner(p) != t || s.patch[p] <= drops;
            }
            if (enough) {
                return minutes;
            }
        }
        return -2;
    }

    private int wind(int b) {
        State s = new State(now);
        for (int minutes = 0; minutes <= 240; minutes++) {
            if (s.dry(b)) {
                return minutes;
            }
            s.minute();
        }
        return -2;
    }

    private long acted(String name, int[] a) {
        switch (name) {
            case "wipe":
                needBather(a[0]);
                needPatch(a[1]);
                refuse(now.pass(a[0], a[1]) == 0, 5);
                act();
                return now.wipe(a[0], a[1]);
            case "wring":
                needTowel(a[0]);
                refuse(now.wringable(a[0]) == 0, 5);
                act();
                return now.wring(a[0]);
            case "hang":
                needTowel(a[0]);
                refuse(a[1] < 1 || a[1] > 60, 2);
                refuse(now.inTowel(a[0]) == 0, 5);
                act();
                return now.hang(a[0], a[1]);
            case "shake":
                needBather(a[0]);
                refuse(now.shaken[a[0]] || now.wet[a[0]] == 0, 5);
                act();
                now.shake(a[0]);
                return 1;
            case "waits":
                needShore();
                refuse(a[0] < 1 || a[0] > 60, 2);
                act();
                now.minutes(a[0]);
                return now.minute;
            case "undo":
                refuse(undo.isEmpty(), 6);
                now = undo.remove(undo.size() - 1);
                return 1;
            case "mark":
                needShore();
                refuse(marks.size() == 3, 3);
                marks.add(new State(now));
                return marks.size() - 1;
            case "back":
                refuse(a[0] < 0 || a[0] >= marks.size(), 1);
                now = new State(marks.get(a[0]));
                undo.clear();
                return 1;
            default: throw new IllegalArgumentException(name);
        }
    }
}
