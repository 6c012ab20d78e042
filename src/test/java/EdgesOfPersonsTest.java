/** The edges of persons and things: the terms on them, and promises 1 to 6 and 30. */
public final class EdgesOfPersonsTest {
    private static final int NONE = DeedProtocol.NONE;
    private static final int SALE = DeedProtocol.SALE;
    private static final int READ = DeedProtocol.READ;
    private static final int MIN = Integer.MIN_VALUE;
    private static final int MAX = Integer.MAX_VALUE;
    private static final Class<?> INDEX = Check.INDEX;
    private static final Class<?> ARGUMENT = Check.ARGUMENT;
    private static final Class<?> STATE = Check.STATE;

    private static final Edge EMPTY = new Edge(DeedProtocol::new);
    private static final Edge TWO = adults(2);
    private static final Edge FOUR = adults(4);
    private static final Edge TWELVE = adults(12);

    public static void main(String[] args) throws IllegalAccessException {
        Sentences.hold(EdgesOfPersonsTest.class);
    }

    private static Edge adults(int count) {
        return new Edge(() -> Notary.withAdults(count));
    }

    private static Edge aged(int years) {
        return EMPTY.after(x -> x.person(years, false));
    }

    // ---- the terms

    @Says(promise = 0, words = "Days are counted from 0")
    static void daysFrom0() {
        Edge will = TWO.after(x -> x.thing(0, 100), x -> x.will(0, 1, 1, 1));
        will.answers("the day of closing", 0, x -> x.close(0), x -> x.deed(0, 4));
        will.answers("the day of an entry", 0, x -> x.die(0), x -> x.entry(0, 3));
        will.answers("a day later", 1, x -> x.pass(1), x -> x.close(0), x -> x.deed(0, 4));
    }

    @Says(promise = 0, words = "a year has 360 days")
    static void yearsOf360Days() {
        aged(17).answers("17 years and 359 days", 0, x -> x.pass(359), x -> Edge.bit(x.isAble(0)));
        aged(17).answers("17 years and 360 days", 1, x -> x.pass(360), x -> Edge.bit(x.isAble(0)));
    }

    @Says(promise = 0, words = "a person has an age in years when told, and is a year older with each 360 days from then on")
    static void olderFromThenOn() {
        Edge later = EMPTY.after(x -> x.pass(100), x -> x.person(16, false));
        later.answers("a day ahead of two years", 0, x -> x.pass(719), x -> Edge.bit(x.isAble(0)));
        later.answers("two years", 1, x -> x.pass(720), x -> Edge.bit(x.isAble(0)));
        Edge newborn = EMPTY.after(x -> x.pass(359), x -> x.person(0, false));
        newborn.answers("a day ahead of 18 years", 0, x -> x.pass(6479), x -> Edge.bit(x.isAble(0)));
        newborn.answers("18 years", 1, x -> x.pass(6480), x -> Edge.bit(x.isAble(0)));
    }

    @Says(promise = 0, words = "Persons are numbered from 0, at most 12")
    static void twelvePersons() {
        EMPTY.answers("the first", 0, x -> x.person(30, false));
        adults(1).answers("the second", 1, x -> x.person(30, false));
        adults(11).answers("the twelfth", 11, x -> x.person(30, false));
        TWELVE.answers("the twelfth is there", 1, x -> Edge.bit(x.isAble(11)));
        TWELVE.refuses("the thirteenth", STATE, x -> x.person(30, false));
        TWELVE.after(x -> x.die(0)).refuses("the thirteenth, when one is dead", STATE, x -> x.person(30, false));
    }

    @Says(promise = 0, words = "may be a child of one or two other persons")
    static void oneOrTwoParents() {
        FOUR.answers("one", 1, x -> x.child(0, 3));
        Edge ofOne = FOUR.after(x -> x.child(0, 3));
        ofOne.answers("two", 2, x -> x.child(1, 3));
        ofOne.after(x -> x.child(1, 3)).refuses("three", STATE, x -> x.child(2, 3));
    }

    @Says(promise = 0, words = "may have a guardian")
    static void oneGuardianOrNone() {
        TWO.answers("none at first", NONE, x -> x.guard(0, NONE));
        TWO.answers("one", 0, x -> x.guard(1, 0), x -> x.guard(1, NONE));
        FOUR.answers("another one is in its place", 2, x -> x.guard(3, 1), x -> x.guard(3, 2), x -> x.guard(3, NONE));
        FOUR.answers("none is left then", NONE, x -> x.guard(3, 1), x -> x.guard(3, 2), x -> x.guard(3, NONE),
                x -> x.guard(3, NONE));
    }

    @Says(promise = 0, words = "lives until it dies")
    static void livesUntilItDies() {
        aged(99).answers("at 126 years", 1, x -> x.pass(10000), x -> Edge.bit(x.isAble(0)));
        aged(99).answers("when it has died", 0, x -> x.die(0), x -> Edge.bit(x.isAble(0)));
    }

    @Says(promise = 0, words = "One is able if it lives, is 18 years old or more, and has no guardian.")
    static void ableFrom18() {
        aged(17).answers("17", 0, x -> Edge.bit(x.isAble(0)));
        aged(18).answers("18", 1, x -> Edge.bit(x.isAble(0)));
        aged(19).answers("19", 1, x -> Edge.bit(x.isAble(0)));
        aged(18).answers("18, and dead", 0, x -> x.die(0), x -> Edge.bit(x.isAble(0)));
        TWO.answers("with a guardian", 0, x -> x.guard(0, 1), x -> Edge.bit(x.isAble(0)));
        TWO.answers("with one no more", 1, x -> x.guard(0, 1), x -> x.guard(0, NONE), x -> Edge.bit(x.isAble(0)));
        Edge ward = aged(17).after(x -> x.person(40, false), x -> x.guard(0, 1), x -> x.pass(360));
        ward.answers("18, with a guardian still", 0, x -> Edge.bit(x.isAble(0)));
        ward.answers("18, with none", 1, x -> x.guard(0, NONE), x -> Edge.bit(x.isAble(0)));
    }

    // ---- a new object

    @Says(promise = 1, words = "Nobody, nothing; the day 0.")
    static void nobodyAndNothing() {
        EMPTY.answers("entries", 0, DeedProtocol::entries);
        EMPTY.answers("duties", 0, DeedProtocol::duties);
        EMPTY.answers("a day later", 1, x -> x.pass(1));
        EMPTY.refuses("isAble", INDEX, x -> Edge.bit(x.isAble(0)));
        EMPTY.refuses("child", INDEX, x -> x.child(0, 1));
        EMPTY.refuses("guard", INDEX, x -> x.guard(0, NONE));
        EMPTY.refuses("thing", INDEX, x -> x.thing(0, 1));
        EMPTY.refuses("draft", INDEX, x -> x.draft(SALE, 0, 1, 0, 1, 1));
        EMPTY.refuses("power", INDEX, x -> x.power(0, 1, NONE, 1, true));
        EMPTY.refuses("will", INDEX, x -> x.will(0, 1, 1, 1));
        EMPTY.refuses("die", INDEX, x -> x.die(0));
    }

    @Says(promise = 1, words = "Nobody, nothing; the day 0.")
    static void noDeedsAndNoRegister() {
        EMPTY.refuses("sign", INDEX, x -> x.sign(0, 0, true, NONE));
        EMPTY.refuses("add", INDEX, x -> x.add(0, READ));
        EMPTY.refuses("witness", INDEX, x -> x.witness(0, 0));
        EMPTY.refuses("close", INDEX, x -> x.close(0));
        EMPTY.refuses("deed", INDEX, x -> x.deed(0, 0));
        EMPTY.refuses("label", INDEX, x -> x.label(0, 0));
        EMPTY.refuses("revoke", INDEX, x -> Edge.bit(x.revoke(0, true)));
        EMPTY.refuses("isGood", INDEX, x -> Edge.bit(x.isGood(0)));
        EMPTY.refuses("copy", INDEX, x -> x.copy(0));
        EMPTY.refuses("lose", INDEX, x -> x.lose(0));
        EMPTY.refuses("proof", INDEX, x -> x.proof(0));
        EMPTY.refuses("enter", INDEX, x -> x.enter(0));
        EMPTY.refuses("entry", INDEX, x -> x.entry(0, 0));
        EMPTY.refuses("search", INDEX, x -> x.search(0, 0, 0));
        EMPTY.refuses("pledge", INDEX, x -> x.pledge(0, 0));
        EMPTY.refuses("share", INDEX, x -> x.share(0, NONE, true));
        EMPTY.refuses("shareAnew", INDEX, x -> x.shareAnew(0, NONE, true));
    }

    // ---- person

    @Says(promise = 2, words = "`age`: 0 to 99, in years")
    static void ageFrom0To99() {
        EMPTY.answers("0", 0, x -> x.person(0, false));
        EMPTY.answers("1", 0, x -> x.person(1, true));
        EMPTY.answers("98", 0, x -> x.person(98, true));
        EMPTY.answers("99", 0, x -> x.person(99, false));
    }

    @Says(promise = 2, words = "Throws `IllegalArgumentException` if age is out of range")
    static void ageOutOfRange() {
        EMPTY.refusesEach("age", ARGUMENT, (x, age) -> x.person(age, false), -1, 100, -2, 101, MIN, MAX);
        adults(11).refusesEach("age of the twelfth", ARGUMENT, (x, age) -> x.person(age, true), -1, 100);
    }

    @Says(promise = 2, words = "`isForeign`: whether it is foreign")
    static void foreignOrNot() {
        for (boolean isForeign : new boolean[] {false, true}) {
            Edge power = EMPTY.after(x -> x.person(30, isForeign), x -> x.person(30, false),
                    x -> x.power(0, 1, NONE, 1, true), x -> x.sign(0, 0, true, NONE), x -> x.add(0, READ));
            power.answers("without an interpreter, foreign " + isForeign,
                    isForeign ? DeedProtocol.LESSER : DeedProtocol.FULL, x -> x.close(0));
        }
    }

    @Says(promise = 2, words = "Throws `IllegalStateException` if there are 12")
    static void personWhenThereAre12() {
        adults(11).answers("when there are 11", 11, x -> x.person(99, true));
        TWELVE.refusesEach("when there are 12, age", STATE, (x, age) -> x.person(age, false), 0, 40, 99);
    }

    @Says(promise = 2, words = "Throws `IllegalArgumentException` if age is out of range")
    static void personsAgeIsLookedAtFirst() {
        TWELVE.refusesEach("when there are 12, age", ARGUMENT, (x, age) -> x.person(age, false), -1, 100, MIN, MAX);
    }

    // ---- child

    @Says(promise = 3, words = "Throws `IndexOutOfBoundsException` if there is no such person, of either")
    static void childOfNobody() {
        FOUR.answers("the first one's, the last one", 1, x -> x.child(0, 3));
        FOUR.refusesEach("parent", INDEX, (x, parent) -> x.child(parent, 3), NONE, 4, MIN, MAX);
        FOUR.refusesEach("child", INDEX, (x, child) -> x.child(0, child), NONE, 4, MIN, MAX);
        FOUR.refuses("neither", INDEX, x -> x.child(4, 5));
    }

    @Says(promise = 3, words = "`child`: a person, told later than parent")
    static void childToldNext() {
        FOUR.answers("0 and 1", 1, x -> x.child(0, 1));
        FOUR.answers("2 and 3", 1, x -> x.child(2, 3));
        TWELVE.answers("0 and 11", 1, x -> x.child(0, 11));
    }

    @Says(promise = 3, words = "Throws `IllegalArgumentException` if child was not told later")
    static void childToldEarlier() {
        FOUR.refuses("itself", ARGUMENT, x -> x.child(2, 2));
        FOUR.refuses("the one ahead", ARGUMENT, x -> x.child(2, 1));
        FOUR.refuses("the first one", ARGUMENT, x -> x.child(3, 0));
        FOUR.refuses("the first one itself", ARGUMENT, x -> x.child(0, 0));
    }

    @Says(promise = 3, words = "Returns how many parents it has then.")
    static void howManyParents() {
        FOUR.answers("one", 1, x -> x.child(1, 3));
        FOUR.answers("two", 2, x -> x.child(1, 3), x -> x.child(0, 3));
        FOUR.answers("another one's", 1, x -> x.child(1, 3), x -> x.child(1, 2));
        FOUR.answers("a dead one counts", 2, x -> x.child(1, 3), x -> x.die(1), x -> x.child(0, 3));
    }

    @Says(promise = 3, words = "Throws `IllegalStateException` if it has two, is a child of that one already, or one of both is dead")
    static void childRefused() {
        Edge ofTwo = FOUR.after(x -> x.child(0, 3), x -> x.child(1, 3));
        ofTwo.refuses("a third parent", STATE, x -> x.child(2, 3));
        ofTwo.refuses("one of the two", STATE, x -> x.child(1, 3));
        FOUR.after(x -> x.child(1, 2)).refuses("that one's already", STATE, x -> x.child(1, 2));
        FOUR.after(x -> x.die(0)).refuses("a dead parent", STATE, x -> x.child(0, 3));
        FOUR.after(x -> x.die(3)).refuses("a dead child", STATE, x -> x.child(0, 3));
        FOUR.after(x -> x.die(3)).answers("others", 1, x -> x.child(0, 2));
    }

    @Says(promise = 3, words = "Throws `IllegalArgumentException` if child was not told later")
    static void childsFirstLineDecides() {
        FOUR.refuses("no such person, not told later", INDEX, x -> x.child(0, NONE));
        FOUR.refuses("the same one, that is not there", INDEX, x -> x.child(4, 4));
        FOUR.after(x -> x.die(0)).refuses("a dead one of nobody", INDEX, x -> x.child(0, 4));
        FOUR.after(x -> x.die(1)).refuses("a dead one, not told later", ARGUMENT, x -> x.child(2, 1));
        FOUR.after(x -> x.die(1)).refuses("a dead one, the same", ARGUMENT, x -> x.child(1, 1));
        Edge ofTwo = FOUR.after(x -> x.child(0, 2), x -> x.child(1, 2));
        ofTwo.refuses("one with two parents, not told later", ARGUMENT, x -> x.child(3, 2));
    }

    // ---- guard

    @Says(promise = 4, words = "Throws `IndexOutOfBoundsException` if there is no such person, of either (NONE aside)")
    static void guardOfNobody() {
        FOUR.answers("the last one, the first one", NONE, x -> x.guard(3, 0));
        FOUR.refusesEach("person", INDEX, (x, person) -> x.guard(person, 0), NONE, 4, MIN, MAX);
        FOUR.refusesEach("guardian", INDEX, (x, guardian) -> x.guard(0, guardian), -2, 4, MIN, MAX);
        FOUR.after(x -> x.guard(0, 1)).refusesEach("guardian, when there is one", INDEX,
                (x, guardian) -> x.guard(0, guardian), -2, 4);
        FOUR.refuses("nobody's, none", INDEX, x -> x.guard(4, NONE));
    }

    @Says(promise = 4, words = "`guardian`: another one, or NONE")
    static void guardianOrNone() {
        FOUR.answers("NONE, when there is none", NONE, x -> x.guard(0, NONE));
        FOUR.answers("one under the number", NONE, x -> x.guard(2, 1));
        FOUR.answers("one above it", NONE, x -> x.guard(2, 3));
        FOUR.answers("each other's", NONE, x -> x.guard(2, 3), x -> x.guard(3, 2));
    }

    @Says(promise = 4, words = "Returns the guardian before; NONE.")
    static void guardianBefore() {
        FOUR.answers("none before", NONE, x -> x.guard(1, 0));
        FOUR.answers("the number 0", 0, x -> x.guard(1, 0), x -> x.guard(1, 2));
        FOUR.answers("the same", 3, x -> x.guard(1, 3), x -> x.guard(1, 3));
        FOUR.answers("taken back", 3, x -> x.guard(1, 3), x -> x.guard(1, NONE));
        FOUR.answers("one who died", NONE, x -> x.guard(1, 3), x -> x.die(3), x -> x.guard(1, 0));
    }

    @Says(promise = 4, words = "Throws `IllegalArgumentException` if both are the same")
    static void guardOfItself() {
        FOUR.refusesEach("both", ARGUMENT, (x, both) -> x.guard(both, both), 0, 1, 3);
        FOUR.after(x -> x.guard(0, 1)).refuses("both, with a guardian", ARGUMENT, x -> x.guard(0, 0));
    }

    @Says(promise = 4, words = "Throws `IllegalStateException` if one of both is dead")
    static void guardOfTheDead() {
        Edge dead = FOUR.after(x -> x.guard(1, 0), x -> x.die(2));
        dead.refuses("a dead ward", STATE, x -> x.guard(2, 0));
        dead.refuses("a dead ward, none", STATE, x -> x.guard(2, NONE));
        dead.refuses("a dead guardian", STATE, x -> x.guard(1, 2));
        dead.after(x -> x.die(3)).refuses("both", STATE, x -> x.guard(2, 3));
        dead.answers("others", 0, x -> x.guard(1, 3));
    }

    @Says(promise = 4, words = "Throws `IllegalArgumentException` if both are the same")
    static void guardsFirstLineDecides() {
        FOUR.refuses("NONE is no ward, though both are the same", INDEX, x -> x.guard(NONE, NONE));
        FOUR.refuses("nobody is the same as nobody", INDEX, x -> x.guard(4, 4));
        Edge dead = FOUR.after(x -> x.die(2));
        dead.refuses("a dead one and nobody", INDEX, x -> x.guard(2, 4));
        dead.refuses("nobody and a dead one", INDEX, x -> x.guard(4, 2));
        dead.refuses("a dead one and the same", ARGUMENT, x -> x.guard(2, 2));
    }

    // ---- thing

    @Says(promise = 5, words = "Throws `IndexOutOfBoundsException` if there is no such person")
    static void thingOfNobody() {
        FOUR.answers("the first one's", 0, x -> x.thing(0, 1));
        FOUR.answers("the last one's", 0, x -> x.thing(3, 1));
        FOUR.refusesEach("owner", INDEX, (x, owner) -> x.thing(owner, 1), NONE, 4, MIN, MAX);
    }

    @Says(promise = 5, words = "`value`: 1 to 1000000")
    static void valueFrom1To1000000() {
        for (int value : new int[] {1, 2, 999999, 1000000}) {
            TWO.answers("value " + value, 0, x -> x.thing(0, value));
        }
        Edge greatest = TWO.after(x -> x.thing(0, 1000000), x -> Notary.sell(x, 0, 1, 0, 1, 1));
        greatest.answers("the duty of the greatest", 50000, DeedProtocol::duties);
    }

    @Says(promise = 5, words = "Throws `IllegalArgumentException` if value is out of range")
    static void valueOutOfRange() {
        TWO.refusesEach("value", ARGUMENT, (x, value) -> x.thing(0, value), 0, 1000001, -1, MIN, MAX);
    }

    private static Edge things(int count) {
        return new Edge(() -> {
            DeedProtocol x = Notary.withAdults(3);
            for (int i = 0; i < count; i++) {
                x.thing(0, 100 + i);
            }
            x.die(2);
            return x;
        });
    }

    @Says(promise = 5, words = "Throws `IllegalStateException` if there are 8, or the owner is dead")
    static void eightThings() {
        things(7).answers("the eighth", 7, x -> x.thing(1, 1));
        things(8).refusesEach("the ninth, of", STATE, (x, owner) -> x.thing(owner, 1), 0, 1);
        things(8).after(x -> x.die(0)).refuses("the ninth, when all are the crown's", STATE, x -> x.thing(1, 1));
        things(0).refuses("a dead one's", STATE, x -> x.thing(2, 1));
        things(7).refuses("a dead one's eighth", STATE, x -> x.thing(2, 1000000));
    }

    @Says(promise = 5, words = "Throws `IllegalArgumentException` if value is out of range")
    static void thingsFirstLineDecides() {
        things(1).refuses("nobody's, out of range", INDEX, x -> x.thing(3, 0));
        things(8).refuses("nobody's ninth", INDEX, x -> x.thing(NONE, 1));
        things(8).refuses("nobody's ninth, out of range", INDEX, x -> x.thing(3, 1000001));
        things(8).refusesEach("the ninth, value", ARGUMENT, (x, value) -> x.thing(0, value), 0, 1000001);
        things(1).refusesEach("a dead one's, value", ARGUMENT, (x, value) -> x.thing(2, value), 0, 1000001);
    }

    @Says(promise = 0, words = "Things are numbered from 0, at most 8; a thing has a value, 1 to 1000000, and is one person's wholly at first.")
    static void thingsFrom0() {
        things(0).answers("the first", 0, x -> x.thing(1, 5));
        Edge second = things(1).after(x -> x.thing(1, 5));
        second.answers("its owner's, above", 1, x -> x.share(1, 1, false));
        second.answers("its owner's, below", 1, x -> x.share(1, 1, true));
        second.answers("another one's, above", 0, x -> x.share(1, 0, false));
        second.answers("the crown's, above", 0, x -> x.share(1, NONE, false));
        second.answers("entries", 0, DeedProtocol::entries);
        things(8).refuses("the share of a ninth", INDEX, x -> x.share(8, 0, true));
        things(8).answers("the share of the eighth", 1, x -> x.share(7, 0, true));
    }

    // ---- isAble

    @Says(promise = 6, words = "Throws `IndexOutOfBoundsException` if there is no such person")
    static void isAbleOfNobody() {
        FOUR.answers("the first", 1, x -> Edge.bit(x.isAble(0)));
        FOUR.answers("the last", 1, x -> Edge.bit(x.isAble(3)));
        FOUR.refusesEach("person", INDEX, (x, person) -> Edge.bit(x.isAble(person)), NONE, 4, MIN, MAX);
        TWELVE.refusesEach("of twelve, person", INDEX, (x, person) -> Edge.bit(x.isAble(person)), 12, 13);
    }

    @Says(promise = 6, words = "Returns whether it is.")
    static void isAbleOrNot() {
        Edge family = FOUR.after(x -> x.person(17, false), x -> x.guard(1, 0), x -> x.die(2));
        int[] due = {1, 0, 0, 1, 0};
        for (int i = 0; i < due.length; i++) {
            int person = i;
            family.answers("person " + person, due[person], x -> Edge.bit(x.isAble(person)));
        }
    }

    // ---- pass

    @Says(promise = 30, words = "`days`: 1 to 10000")
    static void daysFrom1To10000() {
        EMPTY.answers("1", 1, x -> x.pass(1));
        EMPTY.answers("2", 2, x -> x.pass(2));
        EMPTY.answers("9999", 9999, x -> x.pass(9999));
        EMPTY.answers("10000", 10000, x -> x.pass(10000));
    }

    @Says(promise = 30, words = "Throws `IllegalArgumentException` if days is out of range")
    static void daysOutOfRange() {
        EMPTY.refusesEach("days", ARGUMENT, (x, days) -> x.pass(days), 0, 10001, -1, MIN, MAX);
        EMPTY.answers("the day behind refusals is the one before", 7, x -> {
            Check.outcome(() -> x.pass(0));
            Check.outcome(() -> x.pass(10001));
            return x.pass(7);
        });
    }

    @Says(promise = 30, words = "Returns the day then.")
    static void theDayThen() {
        EMPTY.answers("1 behind 10000", 10001, x -> x.pass(10000), x -> x.pass(1));
        DeedProtocol x = new DeedProtocol();
        for (int i = 1; i <= 500; i++) {
            Check.equal("500 times 10000 days", x.pass(10000), 10000L * i);
        }
    }
}
