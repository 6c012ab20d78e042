import java.util.ArrayList;
import java.util.List;

/**
 * Long runs of calls, ordinary and wrong ones, each answer held against {@link Model}; and now and
 * then everything that can be asked, so that a call that was refused cannot have changed a thing. For
 * that the run is gone through again, on objects of which each is asked as much as 512 calls leave.
 */
public final class WalkTest {
    private static final int RUNS = 500;
    private static final int CALLS = 512;
    /** What one turn of a run calls at most. */
    private static final int CALLS_OF_A_TURN = 10;
    private static final int[] ASKED_BEHIND = {60, 128, 200, 280, 360, 430, Integer.MAX_VALUE};
    private static final int[] EDGES = {Integer.MIN_VALUE, -2, -1, 0, 1, 99, 100, 101, 1000, Integer.MAX_VALUE};

    /** A question, and the answer that is due. */
    private record Question(int which, String what, Check.Call call, long due) {
    }

    // Calls are made on what this is when they are made, so that they can be made again on another one.
    private DeedProtocol real = new DeedProtocol();
    private final List<Check.Call> script = new ArrayList<>();
    private final List<Question> questions = new ArrayList<>();
    private final Model model = new Model();
    private final String name;
    private long seed;
    private int wrong = 0;
    private static final int[] answered = new int[29];

    private WalkTest(int run) {
        name = "run " + run;
        seed = run * 0x9E3779B97F4A7C15L + 1;
    }

    public static void main(String[] args) {
        for (int run = 0; run < RUNS; run++) {
            WalkTest walk = new WalkTest(run);
            walk.go(run % 4 == 3);
            if (walk.wrong != 0) {
                break;
            }
        }
        for (int i = 0; i < answered.length; i++) {
            Check.yes("call " + i + " was answered by more than a refusal often: " + answered[i], answered[i] > RUNS / 2);
        }
        Check.end();
    }

    /** Many people and things at first, then whatever comes. */
    private void go(boolean isShort) {
        int people = 3 + any(10);
        for (int i = 0; i < people; i++) {
            boolean isForeign = any(6) == 0;
            int age = any(5) == 0 ? any(18) : 18 + any(60);
            same(0, "person", call(() -> real.person(age, isForeign)), model.person(age, isForeign));
        }
        for (int i = 0; i < (isShort ? 1 : 1 + any(6)); i++) {
            int owner = any(people);
            int value = 1 + any(1000000);
            same(3, "thing", call(() -> real.thing(owner, value)), model.thing(owner, value));
        }
        int asked = 0;
        while (script.size() <= CALLS - CALLS_OF_A_TURN && wrong == 0) {
            if (any(6) == 0) {
                step(any(29));
            } else {
                act(any(100));
            }
            if (script.size() >= ASKED_BEHIND[asked]) {
                askAll();
                asked++;
            }
        }
        Check.yes(name + " is no longer than " + CALLS + " calls", script.size() <= CALLS);
    }

    /** A call that is likely to bring something about. */
    private void act(int dice) {
        if (dice < 26 && !model.papers.isEmpty()) {
            signProperly(any(model.papers.size()));
        } else if (dice < 38 && !model.papers.isEmpty()) {
            finish(model.papers.size() - 1);
        } else if (dice < 48 && !model.papers.isEmpty()) {
            int deed = any(model.papers.size());
            same(18, "enter " + deed, call(() -> real.enter(deed)), model.enter(deed));
        } else if (dice < 62) {
            draftProperly();
        } else if (dice < 70) {
            powerProperly();
        } else if (dice < 76) {
            willProperly();
        } else if (dice == 76) {
            step(19);
        } else {
            step(new int[] {1, 2, 4, 7, 8, 9, 12, 13, 14, 15, 16, 17, 20, 22, 23, 24, 25, 27, 28}[any(19)]);
        }
    }

    private void finish(int deed) {
        Model.Paper paper = model.papers.get(deed);
        same(10, "sign", call(() -> real.sign(deed, paper.giver, true, -1)), model.sign(deed, paper.giver, true, -1));
        if (paper.kind < 3) {
            same(10, "sign", call(() -> real.sign(deed, paper.taker, false, -1)),
                    model.sign(deed, paper.taker, false, -1));
        }
        same(11, "add", call(() -> real.add(deed, 4)), model.add(deed, 4));
        if (any(2) == 0) {
            same(11, "add", call(() -> real.add(deed, 16)), model.add(deed, 16));
        }
        int first = someone();
        int second = someone();
        same(7, "witness", call(() -> real.witness(deed, first)), model.witness(deed, first));
        same(7, "witness", call(() -> real.witness(deed, second)), model.witness(deed, second));
        same(8, "close", call(() -> real.close(deed)), model.close(deed));
        if (paper.kind < 3 && any(2) == 0) {
            same(18, "enter", call(() -> real.enter(deed)), model.enter(deed));
        }
    }

    private void signProperly(int deed) {
        Model.Paper paper = model.papers.get(deed);
        boolean isGiver = any(3) != 0;
        int one = isGiver ? paper.giver : paper.taker;
        int guardian = model.people.get(one).guardian;
        int power = any(model.papers.size());
        for (int i = 0; i < model.papers.size(); i++) {
            Model.Paper candidate = model.papers.get(i);
            if (candidate.kind == 3 && candidate.giver == one && candidate.state != 0 && any(3) == 0) {
                power = i;
            }
        }
        int taker = model.papers.get(power).taker;
        int signer = any(2) == 0 ? taker : guardian != -1 ? guardian : any(4) == 0 ? someone() : one;
        int by = any(4) == 0 ? -1 : power;
        same(10, "sign " + deed + " " + signer + " " + isGiver + " " + by,
                call(() -> real.sign(deed, signer, isGiver, by)), model.sign(deed, signer, isGiver, by));
    }

    private void draftProperly() {
        int kind = any(3);
        int thing = any(model.values.size());
        int giver = someone();
        for (int i = 0; i < model.people.size(); i++) {
            if (model.shares.get(thing)[i].above.signum() > 0 && any(2) == 0) {
                giver = i;
            }
        }
        int from = giver;
        int taker = someone();
        int below = 1 + any(any(3) == 0 ? 100 : 12);
        int above = 1 + any(any(2) == 0 ? below : 1);
        same(5, "draft", call(() -> real.draft(kind, from, taker, thing, above, below)),
                model.draft(kind, from, taker, thing, above, below));
    }

    private void powerProperly() {
        int giver = any(3);
        int taker = someone();
        int thing = any(3) == 0 ? any(model.values.size()) : -1;
        int days = 1 + any(any(2) == 0 ? 1000 : 40);
        boolean goesOn = any(4) != 0;
        same(6, "power", call(() -> real.power(giver, taker, thing, days, goesOn)),
                model.power(giver, taker, thing, days, goesOn));
        if (any(2) == 0 && !model.papers.isEmpty()) {
            finish(model.papers.size() - 1);
        }
    }

    private void willProperly() {
        int giver = someone();
        int taker = someone();
        int below = 1 + any(any(3) == 0 ? 100 : 6);
        int above = 1 + any(below);
        same(26, "will", call(() -> real.will(giver, taker, above, below)), model.will(giver, taker, above, below));
        if (any(2) == 0 && !model.papers.isEmpty()) {
            finish(model.papers.size() - 1);
        }
    }

    private int someone() {
        return any(model.people.size());
    }

    /** A number that is mostly in the range, or an edge. */
    private int number(int size) {
        int dice = any(12);
        return dice == 0 ? EDGES[any(EDGES.length)] : dice == 1 ? size : any(size + 1) - (dice == 2 ? 1 : 0);
    }

    private void step(int which) {
        int p = number(model.people.size());
        int q = number(model.people.size());
        int t = number(model.values.size());
        int d = number(model.papers.size());
        int a = number(100);
        int b = number(100);
        boolean yes = any(2) == 0;
        switch (which) {
            case 0: same(0, "person", call(() -> real.person(a, yes)), model.person(a, yes)); break;
            case 1: same(1, "child", call(() -> real.child(p, q)), model.child(p, q)); break;
            case 2: same(2, "guard", call(() -> real.guard(p, q)), model.guard(p, q)); break;
            case 3: same(3, "thing", call(() -> real.thing(p, b)), model.thing(p, b)); break;
            case 4: same(4, "isAble", call(() -> real.isAble(p) ? 1 : 0), model.isAble(p)); break;
            case 5: {
                int k = number(4);
                same(5, "draft", call(() -> real.draft(k, p, q, t, a, b)), model.draft(k, p, q, t, a, b));
                break;
            }
            case 6: same(6, "power", call(() -> real.power(p, q, t, b, yes)), model.power(p, q, t, b, yes)); break;
            case 7: same(7, "witness", call(() -> real.witness(d, p)), model.witness(d, p)); break;
            case 8: same(8, "close", call(() -> real.close(d)), model.close(d)); break;
            case 9: same(9, "lose", call(() -> real.lose(d)), model.lose(d)); break;
            case 10: {
                int by = number(model.papers.size());
                same(10, "sign", call(() -> real.sign(d, p, yes, by)), model.sign(d, p, yes, by));
                break;
            }
            case 11: {
                int part = number(20);
                same(11, "add", call(() -> real.add(d, part)), model.add(d, part));
                break;
            }
            default: laterStep(which, p, t, d, yes);
        }
    }

    private void laterStep(int which, int p, int t, int d, boolean yes) {
        int n = number(8);
        int m = number(30);
        int e = number(model.entries.size());
        switch (which) {
            case 12: same(12, "deed", call(() -> real.deed(d, n)), model.deed(d, n)); break;
            case 13: same(13, "label", call(() -> real.label(d, n)), model.label(d, n)); break;
            case 14: same(14, "revoke", call(() -> real.revoke(d, yes) ? 1 : 0), model.revoke(d, yes)); break;
            case 15: same(15, "isGood", call(() -> real.isGood(d) ? 1 : 0), model.isGood(d)); break;
            case 16: same(16, "copy", call(() -> real.copy(d)), model.copy(d)); break;
            case 17: same(17, "proof", call(() -> real.proof(d)), model.proof(d)); break;
            case 18: same(18, "enter", call(() -> real.enter(d)), model.enter(d)); break;
            case 19: same(19, "die", call(() -> real.die(p)), model.die(p)); break;
            case 20: same(20, "entry", call(() -> real.entry(e, n)), model.entry(e, n)); break;
            case 21: same(21, "entries", call(() -> real.entries()), model.entries.size()); break;
            case 22: same(22, "search", call(() -> real.search(t, e, m)), model.search(t, e, m)); break;
            case 23: same(23, "pledge", call(() -> real.pledge(t, n)), model.pledge(t, n)); break;
            case 24: same(24, "share", call(() -> real.share(t, p, yes)), model.share(t, p, yes)); break;
            case 25: same(25, "shareAnew", call(() -> real.shareAnew(t, p, yes)), model.share(t, p, yes)); break;
            case 26: same(26, "will", call(() -> real.will(p, n, m, e)), model.will(p, n, m, e)); break;
            case 27: same(27, "duties", call(() -> real.duties()), model.duties); break;
            default: {
                int days = any(9) == 0 ? number(10000) : m;
                same(28, "pass", call(() -> real.pass(days)), model.pass(days));
            }
        }
    }

    private void askAll() {
        ask(21, "entries", () -> real.entries(), model.entries.size());
        ask(27, "duties", () -> real.duties(), model.duties);
        for (int person = 0; person < model.people.size(); person++) {
            int one = person;
            ask(4, "isAble " + one, () -> real.isAble(one) ? 1 : 0, model.isAble(one));
        }
        for (int deed = 0; deed < model.papers.size(); deed++) {
            askOfDeed(deed);
        }
        for (int thing = 0; thing < model.values.size(); thing++) {
            askOfThing(thing);
        }
        for (int entry = 0; entry < model.entries.size(); entry++) {
            int one = entry;
            for (int what = 0; what < 4; what++) {
                int asked = what;
                ask(20, "entry " + one + " " + what, () -> real.entry(one, asked), model.entry(one, asked));
            }
        }
        answerAll();
    }

    private void askOfDeed(int deed) {
        for (int i = 0; i < 6; i++) {
            int what = i;
            ask(12, "deed " + deed + " " + what, () -> real.deed(deed, what), model.deed(deed, what));
            ask(13, "label " + deed + " " + what, () -> real.label(deed, what), model.label(deed, what));
        }
        ask(15, "isGood " + deed, () -> real.isGood(deed) ? 1 : 0, model.isGood(deed));
        ask(17, "proof " + deed, () -> real.proof(deed), model.proof(deed));
    }

    private void askOfThing(int thing) {
        for (int person = -1; person < model.people.size(); person++) {
            int one = person;
            String what = "share of " + one + " of " + thing;
            for (boolean isBelow : new boolean[] {false, true}) {
                long due = model.share(thing, one, isBelow);
                ask(24, what, () -> real.share(thing, one, isBelow), due);
                ask(25, what + " anew", () -> real.shareAnew(thing, one, isBelow), due);
            }
        }
        for (int rank = 0; rank < 4; rank++) {
            int asked = rank;
            ask(23, "pledge", () -> real.pledge(thing, asked), model.pledge(thing, asked));
        }
    }

    private void ask(int which, String what, Check.Call call, long due) {
        questions.add(new Question(which, what, call, due));
    }

    /** Answers them on objects of their own, and goes on with the one of the run then. */
    private void answerAll() {
        DeedProtocol walked = real;
        int asked = CALLS;
        for (Question question : questions) {
            if (asked == CALLS) {
                real = new DeedProtocol();
                for (Check.Call call : script) {
                    outcome(call);
                }
                asked = script.size();
            }
            same(question.which, question.what + ", asked behind " + script.size(), outcome(question.call), question.due);
            asked++;
        }
        questions.clear();
        real = walked;
    }

    private long call(Check.Call call) {
        script.add(call);
        return outcome(call);
    }

    /** The very classes count, thrown by the class: what the machine throws is something else. */
    private static long outcome(Check.Call call) {
        try {
            return call.answer();
        } catch (RuntimeException thrown) {
            Class<?> kind = Check.isThrownByTheClass(thrown) ? thrown.getClass() : null;
            return kind == Check.INDEX ? Model.INDEX
                    : kind == Check.ARGUMENT ? Model.ARGUMENT
                    : kind == Check.STATE ? Model.STATE : -999;
        }
    }

    private void same(int which, String what, long got, long due) {
        if (due > Model.INDEX) {
            answered[which]++;
        }
        if (got != due && wrong < 20) {
            wrong++;
            Check.equal(name + ": " + what, got, due);
        }
    }

    private int any(int bound) {
        seed = seed * 6364136223846793005L + 1442695040888963407L;
        return (int) Long.remainderUnsigned(seed >>> 33, Math.max(1, bound));
    }
}
