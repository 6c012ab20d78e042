/** Promises 1 to 6, and 30: a new object, person, child, guard, thing, isAble, pass. */
public final class PersonsTest {
    private static final int NONE = DeedProtocol.NONE;
    private static final int MIN = Integer.MIN_VALUE;
    private static final int MAX = Integer.MAX_VALUE;

    public static void main(String[] args) {
        newObject();
        persons();
        children();
        childrenAreRefused();
        guardians();
        guardiansAreRefused();
        things();
        ableByAge();
        ableByGuardianAndLife();
        days();
        Check.end();
    }

    private static void newObject() {
        DeedProtocol x = new DeedProtocol();
        Check.equal("entries of a new object", x.entries(), 0);
        Check.equal("duties of a new object", x.duties(), 0);
        Check.refuses("isAble(0)", Check.INDEX, () -> x.isAble(0) ? 1 : 0);
        Check.refuses("deed(0, 0)", Check.INDEX, () -> x.deed(0, 0));
        Check.refuses("search(0, 0, 0)", Check.INDEX, () -> x.search(0, 0, 0));
        Check.refuses("entry(0, 0)", Check.INDEX, () -> x.entry(0, 0));
        Check.equal("pass(1) from the day 0", x.pass(1), 1);
        DeedProtocol other = Notary.withAdults(1);
        Check.equal("objects have nothing in common", x.person(1, true), 0);
        Check.equal("nor this way round", other.person(1, true), 1);
    }

    private static void persons() {
        DeedProtocol x = new DeedProtocol();
        Check.refuses("person(-1)", Check.ARGUMENT, () -> x.person(-1, false));
        Check.refuses("person(100)", Check.ARGUMENT, () -> x.person(100, false));
        Check.refuses("person(MIN)", Check.ARGUMENT, () -> x.person(MIN, true));
        Check.refuses("person(MAX)", Check.ARGUMENT, () -> x.person(MAX, true));
        Check.equal("person(0)", x.person(0, false), 0);
        Check.equal("person(99)", x.person(99, true), 1);
        for (int i = 2; i < 12; i++) {
            Check.equal("person " + i, x.person(20, false), i);
        }
        Check.refuses("the 13th person", Check.STATE, () -> x.person(20, false));
        Check.refuses("the 13th person of a wrong age", Check.ARGUMENT, () -> x.person(100, false));
        x.die(0);
        Check.refuses("the dead count, too", Check.STATE, () -> x.person(20, false));
        Check.yes("the 12th person is there", x.isAble(11));
        Check.refuses("isAble(12)", Check.INDEX, () -> x.isAble(12) ? 1 : 0);
    }

    private static void children() {
        DeedProtocol x = Notary.withAdults(6);
        Check.equal("the first parent", x.child(0, 3), 1);
        Check.equal("the second parent", x.child(1, 3), 2);
        Check.equal("another child of the same one", x.child(0, 4), 1);
        Check.equal("a child's child", x.child(4, 5), 1);
        Check.refuses("a third parent", Check.STATE, () -> x.child(2, 3));
        Check.refuses("the same parent again", Check.STATE, () -> x.child(0, 4));
        Check.equal("what was refused left one place", x.child(2, 4), 2);
    }

    private static void childrenAreRefused() {
        DeedProtocol x = Notary.withAdults(4);
        Check.refuses("no such parent", Check.INDEX, () -> x.child(4, 1));
        Check.refuses("no such child", Check.INDEX, () -> x.child(0, 4));
        Check.refuses("NONE as a parent", Check.INDEX, () -> x.child(NONE, 1));
        Check.refuses("NONE as a child", Check.INDEX, () -> x.child(1, NONE));
        Check.refuses("MIN as a child", Check.INDEX, () -> x.child(1, MIN));
        Check.refuses("its own child", Check.ARGUMENT, () -> x.child(1, 1));
        Check.refuses("a child told earlier", Check.ARGUMENT, () -> x.child(2, 1));
        x.die(1);
        Check.refuses("a dead parent", Check.STATE, () -> x.child(1, 2));
        Check.refuses("a dead child", Check.STATE, () -> x.child(0, 1));
        Check.refuses("the order is looked at ahead of death", Check.ARGUMENT, () -> x.child(2, 1));
        Check.equal("nothing was changed", x.child(0, 2), 1);
    }

    private static void guardians() {
        DeedProtocol x = Notary.withAdults(3);
        Check.equal("guard(0, 1)", x.guard(0, 1), NONE);
        Check.equal("guard(0, 2)", x.guard(0, 2), 1);
        Check.equal("guard(0, 2) again", x.guard(0, 2), 2);
        Check.equal("guard(0, NONE)", x.guard(0, NONE), 2);
        Check.equal("guard(0, NONE) again", x.guard(0, NONE), NONE);
        x.guard(0, 1);
        Check.equal("a ward may be a guardian", x.guard(2, 0), NONE);
        Check.equal("two may guard each other", x.guard(1, 0), NONE);
        x.die(1);
        Check.equal("a guardian who died is none any more", x.guard(0, 2), NONE);
        Check.equal("others stay", x.guard(2, NONE), 0);
    }

    private static void guardiansAreRefused() {
        DeedProtocol x = Notary.withAdults(3);
        Check.refuses("no such person", Check.INDEX, () -> x.guard(3, 0));
        Check.refuses("NONE as a ward", Check.INDEX, () -> x.guard(NONE, NONE));
        Check.refuses("no such guardian", Check.INDEX, () -> x.guard(0, 3));
        Check.refuses("a guardian below NONE", Check.INDEX, () -> x.guard(0, -2));
        Check.refuses("its own guardian", Check.ARGUMENT, () -> x.guard(0, 0));
        x.guard(1, 0);
        x.die(2);
        Check.refuses("a dead guardian", Check.STATE, () -> x.guard(1, 2));
        Check.refuses("a dead ward", Check.STATE, () -> x.guard(2, 0));
        Check.refuses("a dead ward, and nobody", Check.STATE, () -> x.guard(2, NONE));
        Check.refuses("a dead one as its own guardian", Check.ARGUMENT, () -> x.guard(2, 2));
        Check.equal("what was refused changed nothing", x.guard(1, NONE), 0);
    }

    private static void things() {
        DeedProtocol x = Notary.withAdults(3);
        x.die(2);
        Check.refuses("no such owner", Check.INDEX, () -> x.thing(3, 0));
        Check.refuses("the crown as an owner", Check.INDEX, () -> x.thing(NONE, 5));
        Check.refuses("value 0", Check.ARGUMENT, () -> x.thing(0, 0));
        Check.refuses("value 1000001", Check.ARGUMENT, () -> x.thing(0, 1000001));
        Check.refuses("a dead owner, and a wrong value", Check.ARGUMENT, () -> x.thing(2, MIN));
        Check.refuses("a dead owner", Check.STATE, () -> x.thing(2, 1));
        for (int i = 0; i < 8; i++) {
            Check.equal("thing " + i, x.thing(i % 2, i % 3 == 0 ? 1 : 1000000), i);
        }
        Check.refuses("the 9th thing", Check.STATE, () -> x.thing(0, 1));
        Check.refuses("the 9th thing of a wrong value", Check.ARGUMENT, () -> x.thing(0, -1));
        Notary.shareIs(x, "first owners", 0, 0, 1, 1);
        Notary.shareIs(x, "first owners", 0, 1, 0, 1);
        Notary.shareIs(x, "first owners", 7, 1, 1, 1);
        Notary.shareIs(x, "first owners", 7, NONE, 0, 1);
        Check.equal("things make no entries", x.entries(), 0);
    }

    private static void ableByAge() {
        DeedProtocol x = new DeedProtocol();
        x.person(17, false);
        x.person(18, true);
        x.person(0, false);
        Check.no("at 17", x.isAble(0));
        Check.yes("at 18, foreign", x.isAble(1));
        x.pass(359);
        Check.no("at 17 years and 359 days", x.isAble(0));
        x.person(17, false);
        x.pass(1);
        Check.yes("at 17 years and 360 days", x.isAble(0));
        Check.no("told at 17 a day ago", x.isAble(3));
        x.pass(358);
        Check.no("told at 17 359 days ago", x.isAble(3));
        x.pass(1);
        Check.yes("told at 17 360 days ago", x.isAble(3));
        x.pass(18 * 360 - 719 - 1);
        Check.no("a day ahead of 18", x.isAble(2));
        x.pass(1);
        Check.yes("18 from birth on", x.isAble(2));
        Check.refuses("isAble(-1)", Check.INDEX, () -> x.isAble(-1) ? 1 : 0);
        Check.refuses("isAble(4)", Check.INDEX, () -> x.isAble(4) ? 1 : 0);
    }

    private static void ableByGuardianAndLife() {
        DeedProtocol x = Notary.withAdults(3);
        x.guard(0, 1);
        Check.no("with a guardian", x.isAble(0));
        Check.yes("as a guardian", x.isAble(1));
        x.die(1);
        Check.yes("when the guardian is dead", x.isAble(0));
        Check.no("when dead", x.isAble(1));
        x.guard(0, 2);
        x.guard(0, NONE);
        Check.yes("when the guardian was taken back", x.isAble(0));
    }

    private static void days() {
        DeedProtocol x = new DeedProtocol();
        Check.refuses("pass(0)", Check.ARGUMENT, () -> x.pass(0));
        Check.refuses("pass(-1)", Check.ARGUMENT, () -> x.pass(-1));
        Check.refuses("pass(10001)", Check.ARGUMENT, () -> x.pass(10001));
        Check.refuses("pass(MIN)", Check.ARGUMENT, () -> x.pass(MIN));
        Check.equal("pass(1)", x.pass(1), 1);
        Check.equal("pass(10000)", x.pass(10000), 10001);
        Check.equal("pass(7)", x.pass(7), 10008);
    }
}
