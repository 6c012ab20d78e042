/** The edges of who signs and who is there: the terms on it, and promises 10 to 12. */
public final class EdgesOfSigningTest {
    private static final int NONE = DeedProtocol.NONE;
    private static final int SALE = DeedProtocol.SALE;
    private static final int GIVEN = DeedProtocol.GIVEN;
    private static final int TAKEN = DeedProtocol.TAKEN;
    private static final int READ = DeedProtocol.READ;
    private static final int WITNESSED = DeedProtocol.WITNESSED;
    private static final int TOLD = DeedProtocol.TOLD;
    private static final int MIN = Integer.MIN_VALUE;
    private static final int MAX = Integer.MAX_VALUE;
    private static final Class<?> INDEX = Check.INDEX;
    private static final Class<?> ARGUMENT = Check.ARGUMENT;
    private static final Class<?> STATE = Check.STATE;

    /** Persons 0 to 4 of age, 5 of 17 years; things 0 and 1; deed 0, a sale of thing 0 by 0 to 1. */
    private static final Edge SOLD = new Edge(() -> {
        DeedProtocol x = Notary.withAdults(5);
        x.person(17, false);
        x.thing(0, 100);
        x.thing(0, 100);
        x.draft(SALE, 0, 1, 0, 1, 2);
        return x;
    });

    /** The same with deed 1, a FULL power of 0 for 2, for all, of 5 days. */
    private static final Edge EMPOWERED = SOLD.after(x -> Notary.fullPower(x, 0, 2, NONE, 5, false));

    public static void main(String[] args) throws IllegalAccessException {
        Sentences.hold(EdgesOfSigningTest.class);
    }

    // ---- the terms on who signs

    @Says(promise = 0, words = "One who is able signs for itself.")
    static void theAbleSignForThemselves() {
        SOLD.answers("the giver", GIVEN, x -> x.sign(0, 0, true, NONE));
        SOLD.answers("the taker", TAKEN, x -> x.sign(0, 1, false, NONE));
        SOLD.refuses("the taker for the giver", STATE, x -> x.sign(0, 1, true, NONE));
        SOLD.refuses("the giver for the taker", STATE, x -> x.sign(0, 0, false, NONE));
        SOLD.refuses("another one", STATE, x -> x.sign(0, 2, true, NONE));
        Edge young = SOLD.after(x -> x.draft(SALE, 5, 0, 0, 1, 2), x -> x.pass(359));
        young.refuses("at 17 years and 359 days", STATE, x -> x.sign(1, 5, true, NONE));
        young.answers("at 18", GIVEN, x -> x.pass(1), x -> x.sign(1, 5, true, NONE));
        SOLD.after(x -> x.guard(0, 2)).refuses("with a guardian", STATE, x -> x.sign(0, 0, true, NONE));
        SOLD.after(x -> x.die(0)).refuses("dead", STATE, x -> x.sign(0, 0, true, NONE));
    }

    @Says(promise = 0, words = "For one who is not able, but lives, the guardian signs, who is able")
    static void theGuardianSigns() {
        Edge ward = SOLD.after(x -> x.guard(0, 2), x -> x.guard(1, 2));
        ward.answers("for the giver", GIVEN, x -> x.sign(0, 2, true, NONE));
        ward.answers("for the taker", TAKEN, x -> x.sign(0, 2, false, NONE));
        ward.refuses("another one", STATE, x -> x.sign(0, 3, true, NONE));
        ward.after(x -> x.guard(2, 4)).refuses("who has a guardian", STATE, x -> x.sign(0, 2, true, NONE));
        ward.after(x -> x.guard(2, 4)).refuses("the guardian's guardian", STATE, x -> x.sign(0, 4, true, NONE));
        ward.after(x -> x.guard(0, NONE)).refuses("who was one", STATE, x -> x.sign(0, 2, true, NONE));
        ward.after(x -> x.guard(0, 3)).refuses("who was one ahead", STATE, x -> x.sign(0, 2, true, NONE));
        ward.after(x -> x.die(0)).refuses("for a dead one", STATE, x -> x.sign(0, 2, true, NONE));
        ward.after(x -> x.die(2)).refuses("who is dead", STATE, x -> x.sign(0, 2, true, NONE));
        Edge byYoung = SOLD.after(x -> x.guard(0, 5), x -> x.pass(359));
        byYoung.refuses("who is 17", STATE, x -> x.sign(0, 5, true, NONE));
        byYoung.answers("who is 18", GIVEN, x -> x.pass(1), x -> x.sign(0, 5, true, NONE));
        Edge young = SOLD.after(x -> x.draft(SALE, 5, 0, 0, 1, 2));
        young.refuses("for one of 17 who has none, nobody", STATE, x -> x.sign(1, 2, true, NONE));
        young.answers("for one of 17", GIVEN, x -> x.guard(5, 2), x -> x.sign(1, 2, true, NONE));
    }

    @Says(promise = 0, words = "for one who lives, able or not, one who is able signs by a power of that one")
    static void byAPowerOfThatOne() {
        EMPOWERED.answers("of one who is able", GIVEN, x -> x.sign(0, 2, true, 1));
        EMPOWERED.answers("of one who is not", GIVEN, x -> x.guard(0, 4), x -> x.sign(0, 2, true, 1));
        EMPOWERED.after(x -> x.die(0)).refuses("of one who is dead", STATE, x -> x.sign(0, 2, true, 1));
        EMPOWERED.after(x -> x.guard(2, 4)).refuses("one with a guardian", STATE, x -> x.sign(0, 2, true, 1));
        EMPOWERED.after(x -> x.die(2)).refuses("a dead one", STATE, x -> x.sign(0, 2, true, 1));
        EMPOWERED.refuses("one whom it is not for", STATE, x -> x.sign(0, 3, true, 1));
        EMPOWERED.refuses("for the other one", STATE, x -> x.sign(0, 2, false, 1));
        EMPOWERED.refuses("without telling it", STATE, x -> x.sign(0, 2, true, NONE));
        EMPOWERED.refuses("by what is no power", STATE, x -> x.sign(0, 2, true, 0));
        Edge takers = EMPOWERED.after(x -> Notary.fullPower(x, 1, 3, NONE, 5, false));
        takers.answers("for the taker", TAKEN, x -> x.sign(0, 3, false, 2));
        takers.refuses("by the taker's, for the giver", STATE, x -> x.sign(0, 3, true, 2));
        Edge byYoung = SOLD.after(x -> Notary.fullPower(x, 0, 5, NONE, 1000, true), x -> x.pass(359));
        byYoung.refuses("one of 17", STATE, x -> x.sign(0, 5, true, 1));
        byYoung.answers("one of 18", GIVEN, x -> x.pass(1), x -> x.sign(0, 5, true, 1));
    }

    @Says(promise = 0, words = "which is good for the thing of the deed (of a POWER, its thing; if that is none, the power has to be for all)")
    static void goodForTheThing() {
        int[] scopes = {NONE, 0, 1};
        for (int scope : scopes) {
            Edge power = SOLD.after(x -> Notary.fullPower(x, 0, 2, scope, 5, true),
                    x -> x.draft(SALE, 0, 3, 1, 1, 2), x -> x.power(0, 3, NONE, 5, true),
                    x -> x.power(0, 3, 0, 5, true), x -> x.power(0, 3, 1, 5, true));
            int[][] deeds = {{0, 0}, {2, 1}, {3, NONE}, {4, 0}, {5, 1}};
            for (int[] deed : deeds) {
                String what = "a power for " + scope + ", the deed " + deed[0] + " of " + deed[1];
                if (scope == NONE || scope == deed[1]) {
                    power.answers(what, GIVEN, x -> x.sign(deed[0], 2, true, 1));
                } else {
                    power.refuses(what, STATE, x -> x.sign(deed[0], 2, true, 1));
                }
            }
        }
    }

    @Says(promise = 0, words = "A WILL is signed by the giver alone, able, and by nobody for the taker.")
    static void willsAreSignedByTheGiver() {
        Edge will = EMPOWERED.after(x -> x.will(0, 1, 1, 2), x -> Notary.fullPower(x, 1, 2, NONE, 5, false));
        will.answers("the giver", GIVEN, x -> x.sign(2, 0, true, NONE));
        will.refuses("by a power", STATE, x -> x.sign(2, 2, true, 1));
        will.refuses("the taker for the giver", STATE, x -> x.sign(2, 1, true, NONE));
        will.refuses("the taker", STATE, x -> x.sign(2, 1, false, NONE));
        will.refuses("the giver for the taker", STATE, x -> x.sign(2, 0, false, NONE));
        will.refuses("by a power of the taker", STATE, x -> x.sign(2, 2, false, 3));
        Edge ward = will.after(x -> x.guard(0, 2), x -> x.guard(1, 2));
        ward.refuses("the giver, not able", STATE, x -> x.sign(2, 0, true, NONE));
        ward.refuses("the guardian", STATE, x -> x.sign(2, 2, true, NONE));
        ward.refuses("the taker's guardian", STATE, x -> x.sign(2, 2, false, NONE));
        Edge young = SOLD.after(x -> x.will(5, 1, 1, 2), x -> x.pass(359));
        young.refuses("the giver at 17", STATE, x -> x.sign(1, 5, true, NONE));
        young.answers("the giver at 18", GIVEN, x -> x.pass(1), x -> x.sign(1, 5, true, NONE));
    }

    @Says(promise = 0, words = "Who signs for another one is not the other one of the deed.")
    static void notTheOtherOne() {
        Edge guarded = SOLD.after(x -> x.guard(0, 1), x -> x.draft(SALE, 1, 0, 0, 1, 2), x -> x.draft(SALE, 0, 2, 0, 1, 2));
        guarded.refuses("the taker as a guardian", STATE, x -> x.sign(0, 1, true, NONE));
        guarded.refuses("the giver as a guardian", STATE, x -> x.sign(1, 1, false, NONE));
        guarded.answers("the guardian, who is neither", GIVEN, x -> x.sign(2, 1, true, NONE));
        Edge power = SOLD.after(x -> Notary.fullPower(x, 0, 1, NONE, 5, true), x -> x.draft(SALE, 1, 0, 0, 1, 2),
                x -> x.power(0, 1, NONE, 5, true), x -> x.power(1, 0, NONE, 5, true), x -> x.draft(SALE, 0, 2, 0, 1, 2));
        power.refuses("the taker by a power", STATE, x -> x.sign(0, 1, true, 1));
        power.refuses("the giver by a power", STATE, x -> x.sign(2, 1, false, 1));
        power.refuses("the taker of a power", STATE, x -> x.sign(3, 1, true, 1));
        power.refuses("the giver of a power", STATE, x -> x.sign(4, 1, false, 1));
        power.answers("who is neither, by a power", GIVEN, x -> x.sign(5, 1, true, 1));
        Edge both = EMPOWERED.after(x -> Notary.fullPower(x, 1, 2, NONE, 5, true), x -> x.sign(0, 2, true, 1));
        both.answers("one for both", GIVEN | TAKEN, x -> x.sign(0, 2, false, 2));
    }

    @Says(promise = 0, words = "which does not hinder signing")
    static void handedOnOrNot() {
        for (boolean goesOn : new boolean[] {false, true}) {
            Edge power = SOLD.after(x -> Notary.fullPower(x, 0, 2, NONE, 5, goesOn), x -> x.power(0, 3, NONE, 5, true));
            power.answers("a power that goes on or not", GIVEN, x -> x.sign(2, 2, true, 1));
            power.answers("a sale", GIVEN, x -> x.sign(0, 2, true, 1));
        }
    }

    // ---- sign

    @Says(promise = 10, words = "Throws `IndexOutOfBoundsException` if there is no such deed, person or power (NONE aside)")
    static void signOfNobody() {
        EMPOWERED.answers("the first deed, the first person, the last power", GIVEN, x -> x.sign(0, 0, true, 1));
        EMPOWERED.refusesEach("deed", INDEX, (x, deed) -> x.sign(deed, 0, true, NONE), NONE, 2, MIN, MAX);
        EMPOWERED.refusesEach("person", INDEX, (x, person) -> x.sign(0, person, true, NONE), NONE, 6, MIN, MAX);
        EMPOWERED.refusesEach("power, told by the giver", INDEX, (x, power) -> x.sign(0, 0, true, power), -2, 2, MIN, MAX);
        EMPOWERED.refusesEach("power", INDEX, (x, power) -> x.sign(0, 2, true, power), -2, 2, MIN, MAX);
    }

    @Says(promise = 10, words = "`isGiver`: whether it is for the giver, or for the taker")
    static void forGiverOrTaker() {
        SOLD.answers("for the giver", GIVEN, x -> x.sign(0, 0, true, NONE), x -> x.deed(0, 2));
        SOLD.answers("for the taker", TAKEN, x -> x.sign(0, 1, false, NONE), x -> x.deed(0, 2));
        Edge both = SOLD.after(x -> x.guard(0, 2), x -> x.guard(1, 2));
        both.answers("one who signs for both, for the giver", GIVEN, x -> x.sign(0, 2, true, NONE));
        both.answers("one who signs for both, for the taker", TAKEN, x -> x.sign(0, 2, false, NONE));
    }

    @Says(promise = 10, words = "`power`: a deed, or NONE: by which power; it does not matter for one who signs for itself, or as a guardian")
    static void powerDoesNotMatter() {
        Edge ward = EMPOWERED.after(x -> x.guard(1, 3), x -> x.power(0, 1, NONE, 5, true), x -> x.will(0, 1, 1, 2));
        for (int power : new int[] {NONE, 0, 1, 2, 3}) {
            ward.answers("for itself, by " + power, GIVEN, x -> x.sign(0, 0, true, power));
            ward.answers("a will, by " + power, GIVEN, x -> x.sign(3, 0, true, power));
            ward.answers("as a guardian, by " + power, TAKEN, x -> x.sign(0, 3, false, power));
        }
    }

    @Says(promise = 10, words = "Throws `IllegalStateException` if the deed is closed, has this part, or that one cannot sign it so")
    static void signRefused() {
        SOLD.after(x -> x.close(0)).refuses("a closed deed", STATE, x -> x.sign(0, 0, true, NONE));
        SOLD.after(x -> x.close(0)).refuses("a closed deed, for the taker", STATE, x -> x.sign(0, 1, false, NONE));
        Edge given = SOLD.after(x -> x.sign(0, 0, true, NONE));
        given.refuses("GIVEN again", STATE, x -> x.sign(0, 0, true, NONE));
        given.answers("TAKEN", GIVEN | TAKEN, x -> x.sign(0, 1, false, NONE));
        Edge taken = SOLD.after(x -> x.sign(0, 1, false, NONE));
        taken.refuses("TAKEN again", STATE, x -> x.sign(0, 1, false, NONE));
        taken.answers("GIVEN", GIVEN | TAKEN, x -> x.sign(0, 0, true, NONE));
        EMPOWERED.after(x -> x.sign(0, 0, true, NONE)).refuses("GIVEN again, by a power", STATE, x -> x.sign(0, 2, true, 1));
        EMPOWERED.after(x -> x.sign(0, 2, true, 1)).refuses("GIVEN again, by itself", STATE, x -> x.sign(0, 0, true, NONE));
        Edge itself = SOLD.after(x -> x.power(0, 2, NONE, 5, true));
        itself.refuses("a power by itself", STATE, x -> x.sign(1, 2, true, 1));
    }

    @Says(promise = 10, words = "Throws `IndexOutOfBoundsException` if there is no such deed, person or power (NONE aside)")
    static void signsFirstLineDecides() {
        Edge closed = SOLD.after(x -> x.close(0));
        closed.refuses("a closed deed, nobody", INDEX, x -> x.sign(0, 6, true, NONE));
        closed.refuses("a closed deed, no power", INDEX, x -> x.sign(0, 0, true, 1));
        Edge given = SOLD.after(x -> x.sign(0, 0, true, NONE));
        given.refuses("what is signed, nobody", INDEX, x -> x.sign(0, NONE, true, NONE));
        given.refuses("what is signed, no power", INDEX, x -> x.sign(0, 0, true, -2));
        SOLD.refuses("one who cannot, no power", INDEX, x -> x.sign(0, 3, true, 1));
        SOLD.after(x -> x.die(0)).refuses("a dead one, no power", INDEX, x -> x.sign(0, 0, true, 1));
        Edge will = SOLD.after(x -> x.will(0, 1, 1, 2));
        will.refuses("a will by no power", INDEX, x -> x.sign(1, 0, true, 2));
        will.refuses("a will's taker by no power", INDEX, x -> x.sign(1, 1, false, 2));
    }

    @Says(promise = 10, words = "Returns its parts then.")
    static void signAnswersParts() {
        Edge all = SOLD.after(x -> x.add(0, READ), x -> x.add(0, TOLD), x -> x.witness(0, 2), x -> x.witness(0, 3));
        all.answers("GIVEN with others", 29, x -> x.sign(0, 0, true, NONE));
        all.answers("TAKEN with others", 30, x -> x.sign(0, 1, false, NONE));
        all.answers("all", 31, x -> x.sign(0, 1, false, NONE), x -> x.sign(0, 0, true, NONE));
    }

    @Says(promise = 0, words = "until a last day")
    static void untilALastDay() {
        Edge last = EMPOWERED.after(x -> x.pass(5));
        last.answers("on the last day", GIVEN, x -> x.sign(0, 2, true, 1));
        last.after(x -> x.pass(1)).refuses("on the day behind it", STATE, x -> x.sign(0, 2, true, 1));
        Edge lesser = SOLD.after(x -> x.power(0, 2, NONE, 100, true), x -> x.sign(1, 0, true, NONE), x -> x.close(1));
        lesser.answers("a LESSER one on the 30th", GIVEN, x -> x.pass(30), x -> x.sign(0, 2, true, 1));
        lesser.after(x -> x.pass(31)).refuses("a LESSER one on the 31st", STATE, x -> x.sign(0, 2, true, 1));
    }

    @Says(promise = 0, words = "A power is good, if it is FULL or LESSER, its days are not over, it was not revoked, or the taker does not know of that yet")
    static void signedByGoodPowers() {
        EMPOWERED.answers("revoked, and not known", GIVEN, x -> Edge.bit(x.revoke(1, false)), x -> x.sign(0, 2, true, 1));
        EMPOWERED.after(x -> Edge.bit(x.revoke(1, true))).refuses("revoked, and known", STATE, x -> x.sign(0, 2, true, 1));
        Edge drafted = SOLD.after(x -> x.power(0, 2, NONE, 5, true), x -> x.add(1, READ));
        drafted.after(x -> x.close(1)).refuses("a VOID one", STATE, x -> x.sign(0, 2, true, 1));
        Edge signed = drafted.after(x -> x.sign(1, 0, true, NONE));
        signed.refuses("one that is not closed", STATE, x -> x.sign(0, 2, true, 1));
        signed.answers("the same when it is", GIVEN, x -> x.close(1), x -> x.sign(0, 2, true, 1));
        Edge against = EMPOWERED.after(x -> Notary.signedPower(x, new int[] {0, 3}, NONE, 5, true, 2, 1));
        against.refuses("one handed on though it may not be", STATE, x -> x.sign(0, 3, true, 2));
    }

    // ---- add

    @Says(promise = 11, words = "`part`: READ or TOLD")
    static void readOrTold() {
        SOLD.answers("READ", READ, x -> x.add(0, READ));
        SOLD.answers("TOLD", TOLD, x -> x.add(0, TOLD));
        SOLD.answers("both", READ | TOLD, x -> x.add(0, TOLD), x -> x.add(0, READ));
    }

    @Says(promise = 11, words = "Throws `IllegalArgumentException` if part is neither")
    static void neitherReadNorTold() {
        for (int part = -33; part <= 33; part++) {
            int tried = part;
            if (part != READ && part != TOLD) {
                SOLD.refuses("part " + part, ARGUMENT, x -> x.add(0, tried));
            }
        }
        SOLD.refusesEach("part", ARGUMENT, (x, part) -> x.add(0, part), MIN, MAX, READ | MIN, TOLD | 1 << 16);
    }

    @Says(promise = 11, words = "Throws `IndexOutOfBoundsException` if there is no such deed")
    static void addToNoDeed() {
        EMPOWERED.after(x -> x.will(0, 1, 1, 2)).answers("the last deed", READ, x -> x.add(2, READ));
        SOLD.refusesEach("deed", INDEX, (x, deed) -> x.add(deed, READ), NONE, 1, MIN, MAX);
    }

    @Says(promise = 11, words = "Throws `IllegalStateException` if the deed is closed, or has this part")
    static void addRefused() {
        for (int part : new int[] {READ, TOLD}) {
            SOLD.after(x -> x.close(0)).refuses("closed, part " + part, STATE, x -> x.add(0, part));
            SOLD.after(x -> x.add(0, part)).refuses("again, part " + part, STATE, x -> x.add(0, part));
        }
        SOLD.after(x -> x.add(0, READ), x -> x.close(0)).refuses("closed, again", STATE, x -> x.add(0, READ));
    }

    @Says(promise = 11, words = "Throws `IllegalArgumentException` if part is neither")
    static void addsFirstLineDecides() {
        SOLD.refuses("no deed, no part", INDEX, x -> x.add(1, 0));
        SOLD.refuses("NONE, no part", INDEX, x -> x.add(NONE, 5));
        Edge closed = SOLD.after(x -> x.sign(0, 0, true, NONE), x -> x.close(0));
        closed.refuses("a closed deed, GIVEN", ARGUMENT, x -> x.add(0, GIVEN));
        closed.refuses("a closed deed, WITNESSED", ARGUMENT, x -> x.add(0, WITNESSED));
        SOLD.after(x -> x.add(0, READ)).refuses("READ, with more", ARGUMENT, x -> x.add(0, READ | TOLD));
    }

    @Says(promise = 11, words = "Returns its parts then.")
    static void addAnswersParts() {
        Edge given = SOLD.after(x -> x.sign(0, 0, true, NONE));
        given.answers("READ with GIVEN", GIVEN | READ, x -> x.add(0, READ));
        given.answers("TOLD with both", GIVEN | READ | TOLD, x -> x.add(0, READ), x -> x.add(0, TOLD));
    }

    // ---- witness

    @Says(promise = 0, words = "WITNESSED, two witnesses were there")
    static void twoWitnesses() {
        SOLD.answers("one", 0, x -> x.witness(0, 2));
        SOLD.answers("two", WITNESSED, x -> x.witness(0, 2), x -> x.witness(0, 3));
        SOLD.answers("three", WITNESSED, x -> x.witness(0, 2), x -> x.witness(0, 3), x -> x.witness(0, 4));
        Edge other = SOLD.after(x -> x.will(0, 1, 1, 2), x -> x.witness(0, 2));
        other.answers("one of each deed", 0, x -> x.witness(1, 3));
        other.answers("the same one of both", 0, x -> x.witness(1, 2));
        other.answers("one alone, though refused twice", 0, x -> Check.outcome(() -> x.witness(0, 2)), x -> x.deed(0, 2));
    }

    @Says(promise = 0, words = "A witness is able, neither giver nor taker, nor a child or parent of one of both")
    static void whoCanWitness() {
        SOLD.refuses("the giver", STATE, x -> x.witness(0, 0));
        SOLD.refuses("the taker", STATE, x -> x.witness(0, 1));
        SOLD.after(x -> x.guard(2, 3)).refuses("one with a guardian", STATE, x -> x.witness(0, 2));
        SOLD.after(x -> x.die(2)).refuses("a dead one", STATE, x -> x.witness(0, 2));
        SOLD.after(x -> x.pass(359)).refuses("one of 17", STATE, x -> x.witness(0, 5));
        SOLD.answers("one of 18", 0, x -> x.pass(360), x -> x.witness(0, 5));
    }

    @Says(promise = 0, words = "A witness is able, neither giver nor taker, nor a child or parent of one of both")
    static void noneOfTheFamily() {
        Edge family = new Edge(() -> {
            DeedProtocol x = Notary.withAdults(9);
            x.thing(0, 100);
            x.child(0, 2);
            x.child(1, 3);
            x.child(2, 4);
            x.child(3, 5);
            x.child(0, 6);
            x.child(4, 7);
            x.draft(SALE, 2, 3, 0, 1, 2);
            return x;
        });
        family.refuses("the giver's parent", STATE, x -> x.witness(0, 0));
        family.refuses("the taker's parent", STATE, x -> x.witness(0, 1));
        family.refuses("the giver's child", STATE, x -> x.witness(0, 4));
        family.refuses("the taker's child", STATE, x -> x.witness(0, 5));
        family.answers("a parent's child", 0, x -> x.witness(0, 6));
        family.answers("a child's child", 0, x -> x.witness(0, 7));
        family.answers("another one", 0, x -> x.witness(0, 8));
        family.after(x -> x.child(2, 8)).refuses("one who is a child by then", STATE, x -> x.witness(0, 8));
    }

    @Says(promise = 0, words = "one who signed for another one may be")
    static void whoSignedForAnother() {
        Edge signed = EMPOWERED.after(x -> x.guard(1, 3), x -> x.sign(0, 2, true, 1), x -> x.sign(0, 3, false, NONE));
        signed.answers("by a power", GIVEN | TAKEN, x -> x.witness(0, 2));
        signed.answers("as a guardian", GIVEN | TAKEN, x -> x.witness(0, 3));
        signed.answers("both", GIVEN | TAKEN | WITNESSED, x -> x.witness(0, 3), x -> x.witness(0, 2));
    }

    @Says(promise = 12, words = "Throws `IndexOutOfBoundsException` if there is no such deed or person")
    static void witnessOfNothing() {
        EMPOWERED.answers("the last deed's, the last who can", 0, x -> x.will(0, 1, 1, 2), x -> x.witness(2, 4));
        SOLD.refusesEach("deed", INDEX, (x, deed) -> x.witness(deed, 2), NONE, 1, MIN, MAX);
        SOLD.refusesEach("person", INDEX, (x, person) -> x.witness(0, person), NONE, 6, MIN, MAX);
    }

    @Says(promise = 12, words = "Throws `IllegalStateException` if the deed is closed, that one is a witness of it already, or cannot be one")
    static void witnessRefused() {
        SOLD.after(x -> x.close(0)).refuses("a closed deed", STATE, x -> x.witness(0, 2));
        Edge one = SOLD.after(x -> x.witness(0, 2));
        one.refuses("the first again", STATE, x -> x.witness(0, 2));
        Edge two = one.after(x -> x.witness(0, 3));
        two.refuses("the first of two again", STATE, x -> x.witness(0, 2));
        two.refuses("the second again", STATE, x -> x.witness(0, 3));
        two.after(x -> x.witness(0, 4)).refuses("the third again", STATE, x -> x.witness(0, 4));
        one.after(x -> x.close(0)).refuses("a closed deed, again", STATE, x -> x.witness(0, 2));
    }

    @Says(promise = 12, words = "Throws `IndexOutOfBoundsException` if there is no such deed or person")
    static void witnessFirstLineDecides() {
        SOLD.after(x -> x.close(0)).refuses("a closed deed, nobody", INDEX, x -> x.witness(0, 6));
        SOLD.refuses("no deed, the giver", INDEX, x -> x.witness(1, 0));
        SOLD.after(x -> x.die(2)).refuses("no deed, a dead one", INDEX, x -> x.witness(NONE, 2));
    }

    @Says(promise = 12, words = "Returns its parts then.")
    static void witnessAnswersParts() {
        Edge read = SOLD.after(x -> x.add(0, READ), x -> x.sign(0, 0, true, NONE));
        read.answers("one", READ | GIVEN, x -> x.witness(0, 2));
        read.answers("two", READ | GIVEN | WITNESSED, x -> x.witness(0, 2), x -> x.witness(0, 3));
    }
}
