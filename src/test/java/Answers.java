import java.util.ArrayList;
import java.util.List;

/** What an object answers to calls that change nothing, so that two objects can be compared. */
final class Answers {
    private final OneTowel x;
    private final List<String> all = new ArrayList<>();

    private Answers(OneTowel x) {
        this.x = x;
    }

    private void add(String call, long answer) {
        all.add(call + " " + answer);
    }

    /** What acts change, and sizes: some fifty calls of a small shore. */
    static List<String> now(OneTowel x) {
        Answers answers = new Answers(x);
        answers.now();
        return answers.all;
    }

    /** Nearly all there is to ask: some two hundred calls of a small shore. */
    static List<String> all(OneTowel x) {
        Answers answers = new Answers(x);
        answers.now();
        answers.told();
        answers.plan();
        answers.choices();
        answers.seen();
        return answers.all;
    }

    private void now() {
        add("fault", x.fault());
        for (int what = 0; what < 14; what++) {
            add("size(" + what + ")", x.size(what));
        }
        for (int b = 0; b < x.size(8); b++) {
            add("drops of " + b, x.bather(b, 1));
            add("cold of " + b, x.bather(b, 2));
            add("shaken " + b, x.bather(b, 7));
        }
        for (int p = 0; p < x.size(7); p++) {
            add("patch " + p, x.patch(p));
        }
        add("water", x.water());
        add("lost", x.lost());
        add("clock", x.clock());
        add("wetOnes", x.wetOnes());
    }

    private void told() {
        for (int b = 0; b < x.size(8); b++) {
            for (int what = 0; what < 8; what++) {
                add("bather(" + b + ", " + what + ")", x.bather(b, what));
            }
            add("best " + b, x.best(b));
        }
        for (int t = 0; t < x.size(6); t++) {
            for (int what = 0; what < 3; what++) {
                add("towel(" + t + ", " + what + ")", x.towel(t, what));
            }
        }
        for (int p = 0; p < x.size(7); p++) {
            add("towelOf " + p, x.towelOf(p));
        }
    }

    private void plan() {
        int steps = x.size(9);
        for (int i = 0; i < steps; i++) {
            for (int what = 0; what < 4; what++) {
                add("step(" + i + ", " + what + ")", x.step(i, what));
            }
        }
        for (int b = 0; b < x.size(8); b++) {
            add("planWet " + b, x.planWet(steps, b));
            add("planCold " + b, x.planCold(steps, b));
            add("dryBy " + b, x.dryBy(b));
        }
        for (int p = 0; p < x.size(7); p++) {
            add("planPatch " + p, x.planPatch(steps, p));
        }
        add("planTime", x.planTime(steps));
        add("judge", x.judge());
        add("late", x.late());
    }

    private void choices() {
        add("wettest", x.wettest());
        add("coldest", x.coldest());
        add("share", x.share());
        add("wringing", x.wringing());
        add("wrung", x.wrung());
        for (int i = 0; i < x.size(8); i++) {
            add("wettestAt " + i, x.wettestAt(i));
            add("coldestAt " + i, x.coldestAt(i));
            add("ruleAt " + i, x.ruleAt(3, i));
            add("shareAt " + i, x.shareAt(i));
            add("times " + i, x.times(i));
            add("wind " + i, x.wind(i));
        }
        for (int what = 0; what < 4; what++) {
            add("bestRule " + what, x.bestRule(what));
        }
        for (int n = 1; n <= 3; n++) {
            add("next " + n, x.next(n));
            add("nextAt " + n, x.nextAt(n, n - 1));
        }
        for (int t = 0; t < x.size(6); t++) {
            add("sun " + t, x.sun(t, 1));
        }
    }

    private void seen() {
        add("fits", x.fits());
        for (int b = 0; b < x.size(8); b++) {
            add("fit " + b, x.fit(0, b));
            add("could " + b, x.could(b));
            add("surely " + b, x.surely(b));
        }
        add("look", x.look());
        add("lookMost", x.lookMost());
        add("summer", x.summer(3, 7, 5));
        add("sixth", x.sixth(0, 3, 7, 5));
    }
}
