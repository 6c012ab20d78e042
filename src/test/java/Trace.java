import java.util.ArrayList;
import java.util.List;

/**
 * All that can be found out of a state, by asking and by going on, as a row of answers. No object is
 * called more than 512 times for it: each few questions, and each way to go on, have one of their own.
 * So has each single call that may show what cannot be asked for; for a call that is refused there, but
 * changes something all the same, would hide from those behind it what was to be found out.
 */
final class Trace {
    private static final int NONE = DeedProtocol.NONE;
    private static final int QUESTIONS_OF_AN_OBJECT = 150;
    private static final int DEEDS_WITH_STEPS = 6;

    /** A way to go on, a few hundred calls long at most. */
    private interface Course {
        void run(DeedProtocol x);
    }

    private final Edge.State state;
    private final Edge.Act before;
    private final List<Long> answers = new ArrayList<>();
    private int persons = 0;
    private int things = 0;
    private int deeds = 0;
    private int entries = 0;

    private Trace(Edge.State state, Edge.Act before) {
        this.state = state;
        this.before = before;
    }

    /** Tells of the state behind a call, or, with null, of the state as it is. */
    static long[] of(Edge.State state, Edge.Act before) {
        Trace trace = new Trace(state, before);
        trace.count();
        trace.askAll();
        trace.takeSteps();
        trace.goOn();
        long[] row = new long[trace.answers.size()];
        for (int i = 0; i < row.length; i++) {
            row[i] = trace.answers.get(i);
        }
        return row;
    }

    private DeedProtocol made() {
        DeedProtocol x = state.make();
        if (before != null) {
            Check.outcome(() -> before.on(x));
        }
        return x;
    }

    private long answer(DeedProtocol x, Edge.Act act) {
        long got = Check.outcome(() -> act.on(x));
        answers.add(got);
        return got;
    }

    private void count() {
        DeedProtocol x = made();
        while (persons < 20 && answer(x, y -> Edge.bit(y.isAble(persons))) >= 0) {
            persons++;
        }
        while (things < 20 && answer(x, y -> y.search(things, 0, 0)) >= 0) {
            things++;
        }
        while (deeds < 80 && answer(x, y -> y.deed(deeds, 0)) >= 0) {
            deeds++;
        }
        entries = x.entries();
    }

    private void askAll() {
        List<Edge.Act> questions = new ArrayList<>();
        questions.add(DeedProtocol::entries);
        questions.add(DeedProtocol::duties);
        for (int i = 0; i < deeds; i++) {
            addOfDeed(questions, i);
        }
        for (int i = 0; i < entries; i++) {
            int entry = i;
            for (int k = 0; k < 4; k++) {
                int what = k;
                questions.add(x -> x.entry(entry, what));
            }
        }
        for (int i = 0; i < things; i++) {
            addOfThing(questions, i);
        }
        DeedProtocol x = null;
        for (int i = 0; i < questions.size(); i++) {
            x = i % QUESTIONS_OF_AN_OBJECT == 0 ? made() : x;
            answer(x, questions.get(i));
        }
    }

    private static void addOfDeed(List<Edge.Act> questions, int deed) {
        for (int i = 0; i < 6; i++) {
            int number = i;
            questions.add(x -> x.deed(deed, number));
            questions.add(x -> x.label(deed, number));
        }
        questions.add(x -> Edge.bit(x.isGood(deed)));
        questions.add(x -> x.proof(deed));
    }

    private void addOfThing(List<Edge.Act> questions, int thing) {
        questions.add(x -> x.search(thing, 0, 200));
        for (int i = 0; i < 25; i++) {
            int rank = i;
            questions.add(x -> x.pledge(thing, rank));
        }
        for (int i = NONE; i < persons; i++) {
            int person = i;
            questions.add(x -> x.share(thing, person, false));
            questions.add(x -> x.share(thing, person, true));
            questions.add(x -> x.shareAnew(thing, person, false));
            questions.add(x -> x.shareAnew(thing, person, true));
        }
    }

    /** Calls a few times on an object of its own. */
    private void step(Edge.Act... acts) {
        DeedProtocol x = made();
        for (Edge.Act act : acts) {
            answer(x, act);
        }
    }

    private void takeSteps() {
        step(x -> x.person(17, false));
        step(x -> x.draft(DeedProtocol.SALE, 0, 1, 0, 1, 1));
        step(x -> x.power(0, 1, NONE, 1, true));
        step(x -> x.will(0, 1, 1, 1));
        for (int i = 0; i < persons; i++) {
            stepOfPerson(i);
        }
        for (int i = 0; i < deeds; i++) {
            if (i < DEEDS_WITH_STEPS || i == deeds - 1) {
                stepOfDeed(i);
            }
        }
    }

    private void stepOfPerson(int person) {
        step(x -> x.guard(person, NONE));
        step(x -> x.thing(person, 1));
        step(x -> x.die(person), DeedProtocol::entries);
        inherit(person);
        step(x -> x.will(person, person == 0 ? 1 : 0, 1, 1), x -> x.close(deeds), x -> x.deed(deeds, 3));
        for (int i = person + 1; i < persons; i++) {
            int other = i;
            step(x -> x.child(person, other));
        }
    }

    /** Lets one die who has a thing, which goes to those of its family who are known. */
    private void inherit(int person) {
        DeedProtocol x = made();
        answer(x, y -> y.thing(person, 1));
        answer(x, y -> y.die(person));
        for (int i = NONE; i < persons; i++) {
            int heir = i;
            answer(x, y -> y.share(things, heir, true));
        }
    }

    private void stepOfDeed(int deed) {
        step(x -> x.close(deed), x -> x.deed(deed, 3), x -> x.deed(deed, 4));
        step(x -> x.enter(deed), DeedProtocol::duties);
        step(x -> x.copy(deed));
        step(x -> x.lose(deed));
        step(x -> Edge.bit(x.revoke(deed, false)), x -> Edge.bit(x.isGood(deed)));
        step(x -> x.add(deed, DeedProtocol.READ));
        step(x -> x.add(deed, DeedProtocol.TOLD));
        for (int i = 0; i < persons; i++) {
            int person = i;
            step(x -> x.witness(deed, person));
            step(x -> x.sign(deed, person, true, NONE));
            step(x -> x.sign(deed, person, false, NONE));
        }
    }

    private void goOn() {
        go(this::family);
        go(this::closings);
        go(this::numbers);
        go(this::revocations);
        go(this::entering);
        go(this::deaths);
        go(x -> days(x, 1, 34));
        go(x -> days(x, 26, 41));
        for (int first = 0; first < Math.min(deeds, 24); first += 6) {
            int from = first;
            go(x -> witnesses(x, from));
            go(x -> signatures(x, from));
            go(x -> papers(x, from));
        }
    }

    private void go(Course course) {
        course.run(made());
    }

    private void family(DeedProtocol x) {
        for (int i = 0; i < persons; i++) {
            int one = i;
            answer(x, y -> y.guard(one, NONE));
            for (int k = i + 1; k < persons; k++) {
                int other = k;
                answer(x, y -> y.child(one, other));
            }
        }
        answer(x, y -> y.person(17, false));
        answer(x, y -> y.thing(0, 1));
    }

    private void closings(DeedProtocol x) {
        for (int i = 0; i < deeds; i++) {
            int deed = i;
            answer(x, y -> y.close(deed));
            answer(x, y -> y.deed(deed, 3));
            answer(x, y -> y.deed(deed, 4));
        }
    }

    private void numbers(DeedProtocol x) {
        for (int i = 0; i < 62; i++) {
            answer(x, y -> y.power(0, 1, NONE, 1, true));
        }
    }

    private void revocations(DeedProtocol x) {
        for (int i = 0; i < deeds; i++) {
            int deed = i;
            answer(x, y -> Edge.bit(y.revoke(deed, false)));
            answer(x, y -> Edge.bit(y.isGood(deed)));
            answer(x, y -> Edge.bit(y.revoke(deed, true)));
            answer(x, y -> Edge.bit(y.isGood(deed)));
        }
    }

    private void entering(DeedProtocol x) {
        for (int i = 0; i < deeds; i++) {
            int deed = i;
            answer(x, y -> y.enter(deed));
            answer(x, DeedProtocol::duties);
        }
    }

    private void deaths(DeedProtocol x) {
        for (int i = 0; i < persons; i++) {
            int person = i;
            answer(x, y -> y.die(person));
            for (int k = 0; k < things; k++) {
                int thing = k;
                answer(x, y -> y.share(thing, NONE, false));
                answer(x, y -> y.share(thing, NONE, true));
            }
        }
    }

    private void days(DeedProtocol x, int days, int steps) {
        List<Integer> powers = new ArrayList<>();
        for (int i = 0; i < deeds && powers.size() < 5; i++) {
            if (x.deed(i, 1) == DeedProtocol.POWER) {
                powers.add(i);
            }
        }
        for (int i = 0; i < steps; i++) {
            answer(x, y -> y.pass(days));
            for (int power : powers) {
                answer(x, y -> Edge.bit(y.isGood(power)));
            }
        }
    }

    private void witnesses(DeedProtocol x, int from) {
        for (int i = from; i < Math.min(from + 6, deeds); i++) {
            int deed = i;
            for (int k = 0; k < persons; k++) {
                int person = k;
                answer(x, y -> y.witness(deed, person));
            }
        }
    }

    /** Signs, closes, and then revokes what is revoked there, so that a power behind a power shows. */
    private void signatures(DeedProtocol x, int from) {
        for (int i = from; i < Math.min(from + 6, deeds); i++) {
            int deed = i;
            for (int k = 0; k < persons; k++) {
                int person = k;
                answer(x, y -> y.sign(deed, person, true, NONE));
                answer(x, y -> y.sign(deed, person, false, NONE));
            }
            answer(x, y -> y.add(deed, DeedProtocol.READ));
            answer(x, y -> y.close(deed));
        }
        for (int i = 0; i < Math.min(deeds, 20); i++) {
            int deed = i;
            answer(x, y -> Edge.bit(y.revoke(deed, true)));
            for (int k = from; k < Math.min(from + 6, deeds); k++) {
                int power = k;
                answer(x, y -> Edge.bit(y.isGood(power)));
            }
        }
    }

    private void papers(DeedProtocol x, int from) {
        for (int i = from; i < Math.min(from + 6, deeds); i++) {
            int deed = i;
            for (int k = 0; k < 5; k++) {
                answer(x, y -> y.copy(deed));
            }
            for (int k = 0; k < 5; k++) {
                answer(x, y -> y.lose(deed));
            }
        }
    }
}
