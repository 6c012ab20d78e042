/** Promises 10 to 12: sign, add, witness. */
public final class SigningTest {
    private static final int NONE = DeedProtocol.NONE;
    private static final int SALE = DeedProtocol.SALE;
    private static final int GIVEN = DeedProtocol.GIVEN;
    private static final int TAKEN = DeedProtocol.TAKEN;
    private static final int READ = DeedProtocol.READ;
    private static final int TOLD = DeedProtocol.TOLD;

    public static void main(String[] args) {
        forItself();
        wrongNumbers();
        closedOrSigned();
        asGuardian();
        byPower();
        byPowerOfAThing();
        powersByPower();
        forOneNotAbleByPower();
        theOtherOneSignsNot();
        wills();
        theDead();
        readAndTold();
        witnesses();
        witnessesOfTheFamily();
        Check.end();
    }

    private static void forItself() {
        DeedProtocol x = Notary.withAdults(3);
        x.thing(0, 100);
        x.draft(SALE, 0, 1, 0, 1, 2);
        Check.refuses("the taker for the giver", Check.STATE, () -> x.sign(0, 1, true, NONE));
        Check.refuses("another one", Check.STATE, () -> x.sign(0, 2, true, NONE));
        Check.equal("the taker", x.sign(0, 1, false, NONE), TAKEN);
        Check.equal("the giver, whatever power is told", x.sign(0, 0, true, 0), GIVEN | TAKEN);
        x.power(0, 1, NONE, 9, true);
        Check.equal("the taker of a power may sign", x.sign(1, 1, false, NONE), TAKEN);
        Check.equal("and its giver", x.sign(1, 0, true, NONE), GIVEN | TAKEN);
        x.person(17, false);
        x.draft(SALE, 3, 1, 0, 1, 2);
        Check.refuses("one under age", Check.STATE, () -> x.sign(2, 3, true, NONE));
        x.pass(360);
        Check.equal("one who has come of age", x.sign(2, 3, true, NONE), GIVEN);
        x.guard(1, 2);
        Check.refuses("one with a guardian", Check.STATE, () -> x.sign(2, 1, false, NONE));
    }

    private static void wrongNumbers() {
        DeedProtocol x = Notary.withAdults(2);
        x.thing(0, 100);
        x.draft(SALE, 0, 1, 0, 1, 2);
        Check.refuses("no such deed", Check.INDEX, () -> x.sign(1, 0, true, NONE));
        Check.refuses("NONE as the deed", Check.INDEX, () -> x.sign(NONE, 0, true, NONE));
        Check.refuses("no such person", Check.INDEX, () -> x.sign(0, 2, true, NONE));
        Check.refuses("NONE as the person", Check.INDEX, () -> x.sign(0, NONE, true, NONE));
        Check.refuses("no such power", Check.INDEX, () -> x.sign(0, 0, true, 1));
        Check.refuses("a power below NONE", Check.INDEX, () -> x.sign(0, 0, true, -2));
        x.close(0);
        Check.refuses("no such power, closed", Check.INDEX, () -> x.sign(0, 0, true, 1));
        Check.equal("nothing was changed", x.deed(0, 2), 0);
    }

    private static void closedOrSigned() {
        DeedProtocol x = Notary.withAdults(2);
        x.thing(0, 100);
        x.draft(SALE, 0, 1, 0, 1, 2);
        x.sign(0, 0, true, NONE);
        Check.refuses("the same part again", Check.STATE, () -> x.sign(0, 0, true, NONE));
        Check.equal("the parts stay", x.deed(0, 2), GIVEN);
        x.close(0);
        Check.refuses("a closed deed", Check.STATE, () -> x.sign(0, 1, false, NONE));
        Check.equal("the parts stay", x.deed(0, 2), GIVEN);
    }

    private static void asGuardian() {
        DeedProtocol x = Notary.withAdults(5);
        x.thing(0, 100);
        x.guard(0, 2);
        x.guard(1, 2);
        x.draft(SALE, 0, 1, 0, 1, 2);
        Check.refuses("who is no guardian", Check.STATE, () -> x.sign(0, 3, true, NONE));
        Check.equal("the guardian for the giver, whatever power", x.sign(0, 2, true, 0), GIVEN);
        Check.equal("and for the taker", x.sign(0, 2, false, NONE), GIVEN | TAKEN);
        x.guard(2, 4);
        x.draft(SALE, 0, 1, 0, 1, 2);
        Check.refuses("a guardian who is not able", Check.STATE, () -> x.sign(1, 2, true, NONE));
        Check.refuses("the guardian's guardian", Check.STATE, () -> x.sign(1, 4, true, NONE));
        x.guard(2, NONE);
        x.guard(0, NONE);
        Check.refuses("who was a guardian", Check.STATE, () -> x.sign(1, 2, true, NONE));
        x.person(3, false);
        x.guard(5, 3);
        x.draft(SALE, 5, 0, 0, 1, 2);
        Check.equal("the guardian of a child", x.sign(2, 3, true, NONE), GIVEN);
    }

    private static void byPower() {
        DeedProtocol x = Notary.withAdults(5);
        x.thing(0, 100);
        int power = Notary.fullPower(x, 0, 2, NONE, 5, false);
        x.draft(SALE, 0, 1, 0, 1, 2);
        x.draft(SALE, 3, 0, 0, 1, 2);
        x.draft(SALE, 3, 1, 0, 1, 2);
        Check.refuses("without telling the power", Check.STATE, () -> x.sign(1, 2, true, NONE));
        Check.refuses("who is not its taker", Check.STATE, () -> x.sign(1, 4, true, power));
        Check.refuses("for who is not its giver", Check.STATE, () -> x.sign(3, 2, true, power));
        Check.refuses("on the other side", Check.STATE, () -> x.sign(1, 2, false, power));
        Check.refuses("by what is no power", Check.STATE, () -> x.sign(1, 2, true, 2));
        Check.equal("for the giver", x.sign(1, 2, true, power), GIVEN);
        x.guard(2, 4);
        Check.refuses("who is not able", Check.STATE, () -> x.sign(2, 2, false, power));
        x.guard(2, NONE);
        x.pass(5);
        Check.equal("for the taker, on the last day", x.sign(2, 2, false, power), TAKEN);
        x.draft(SALE, 0, 1, 0, 1, 2);
        x.pass(1);
        Check.refuses("when the days are over", Check.STATE, () -> x.sign(4, 2, true, power));
        int drafted = x.power(0, 2, NONE, 5, false);
        x.sign(drafted, 0, true, NONE);
        x.add(drafted, READ);
        Check.refuses("by a power that is not closed", Check.STATE, () -> x.sign(4, 2, true, drafted));
        x.close(drafted);
        Check.equal("by the same when it is", x.sign(4, 2, true, drafted), GIVEN);
    }

    private static void byPowerOfAThing() {
        DeedProtocol x = Notary.withAdults(3);
        x.thing(0, 100);
        x.thing(0, 100);
        int power = Notary.fullPower(x, 0, 2, 1, 5, true);
        x.draft(SALE, 0, 1, 0, 1, 2);
        x.draft(SALE, 0, 1, 1, 1, 2);
        Check.refuses("of another thing", Check.STATE, () -> x.sign(1, 2, true, power));
        Check.equal("of the thing", x.sign(2, 2, true, power), GIVEN);
        x.power(0, 1, 0, 5, true);
        x.power(0, 1, 1, 5, true);
        x.power(0, 1, NONE, 5, true);
        Check.refuses("a power of another thing", Check.STATE, () -> x.sign(3, 2, true, power));
        Check.equal("a power of the thing", x.sign(4, 2, true, power), GIVEN);
        Check.refuses("a power for all", Check.STATE, () -> x.sign(5, 2, true, power));
        int all = Notary.fullPower(x, 0, 2, NONE, 5, true);
        Check.equal("a power for all, by one for all", x.sign(5, 2, true, all), GIVEN);
        Check.equal("a power of a thing, by one for all", x.sign(3, 2, true, all), GIVEN);
    }

    private static void powersByPower() {
        DeedProtocol x = Notary.withAdults(5);
        x.thing(0, 100);
        int stays = Notary.fullPower(x, 0, 1, NONE, 50, false);
        int next = Notary.signedPower(x, new int[] {0, 2}, NONE, 50, true, 1, stays);
        Check.no("what was handed on against the power", x.isGood(next));
        x.draft(SALE, 0, 3, 0, 1, 2);
        Check.refuses("by what is not good", Check.STATE, () -> x.sign(2, 2, true, next));
        int power = x.power(3, 4, NONE, 5, true);
        Check.equal("the taker of a power by its own power", x.sign(power, 3, true, NONE), GIVEN);
        int takers = Notary.fullPower(x, 4, 1, NONE, 50, false);
        Check.equal("TAKEN of a power by a power", x.sign(power, 1, false, takers), GIVEN | TAKEN);
        x.add(power, READ);
        x.close(power);
        x.revoke(takers, true);
        Check.yes("the taker's power has nothing to do with it", x.isGood(power));
    }

    private static void forOneNotAbleByPower() {
        DeedProtocol x = Notary.withAdults(4);
        x.thing(0, 100);
        int power = Notary.fullPower(x, 0, 2, NONE, 50, false);
        x.guard(0, 3);
        x.draft(SALE, 0, 1, 0, 1, 2);
        Check.equal("by a power of one who is not able", x.sign(1, 2, true, power), GIVEN);
        x.draft(SALE, 1, 0, 0, 1, 2);
        Check.refuses("itself, by its own power", Check.STATE, () -> x.sign(2, 0, false, power));
        Check.equal("the guardian beside it", x.sign(2, 3, false, NONE), TAKEN);
    }

    private static void theOtherOneSignsNot() {
        DeedProtocol x = Notary.withAdults(4);
        x.thing(0, 100);
        int power = Notary.fullPower(x, 0, 1, NONE, 50, true);
        x.draft(SALE, 0, 1, 0, 1, 2);
        Check.refuses("the taker for the giver, by power", Check.STATE, () -> x.sign(1, 1, true, power));
        x.draft(SALE, 1, 0, 0, 1, 2);
        Check.refuses("the giver for the taker, by power", Check.STATE, () -> x.sign(2, 1, false, power));
        x.power(0, 1, NONE, 5, true);
        Check.refuses("a power for who signs", Check.STATE, () -> x.sign(3, 1, true, power));
        x.guard(0, 1);
        Check.refuses("the taker, as a guardian", Check.STATE, () -> x.sign(1, 1, true, NONE));
        Check.refuses("the giver, as a guardian", Check.STATE, () -> x.sign(2, 1, false, NONE));
        Check.equal("who is neither, by both roles", signedBySomeone(x), GIVEN | TAKEN);
    }

    /** One signs for both sides, as the guardian of one and by a power of the other. */
    private static int signedBySomeone(DeedProtocol x) {
        int power = Notary.fullPower(x, 2, 1, NONE, 50, true);
        int deed = x.draft(SALE, 0, 2, 0, 1, 2);
        x.sign(deed, 1, true, NONE);
        return x.sign(deed, 1, false, power);
    }

    private static void wills() {
        DeedProtocol x = Notary.withAdults(3);
        int power = Notary.fullPower(x, 0, 2, NONE, 50, true);
        int takers = Notary.fullPower(x, 1, 2, NONE, 50, true);
        int will = x.will(0, 1, 1, 2);
        Check.refuses("by a power", Check.STATE, () -> x.sign(will, 2, true, power));
        Check.refuses("the taker for itself", Check.STATE, () -> x.sign(will, 1, false, NONE));
        Check.refuses("the taker, by a power", Check.STATE, () -> x.sign(will, 2, false, takers));
        Check.refuses("the giver for the taker", Check.STATE, () -> x.sign(will, 0, false, NONE));
        x.guard(0, 2);
        Check.refuses("the guardian", Check.STATE, () -> x.sign(will, 2, true, NONE));
        Check.refuses("the giver, not able", Check.STATE, () -> x.sign(will, 0, true, NONE));
        x.guard(0, NONE);
        x.guard(1, 2);
        Check.refuses("the taker's guardian", Check.STATE, () -> x.sign(will, 2, false, NONE));
        Check.equal("the giver, able", x.sign(will, 0, true, NONE), GIVEN);
    }

    private static void theDead() {
        DeedProtocol x = Notary.withAdults(4);
        x.thing(0, 100);
        int power = Notary.fullPower(x, 0, 2, NONE, 50, true);
        x.draft(SALE, 0, 1, 0, 1, 2);
        x.guard(0, 3);
        x.die(0);
        Check.refuses("a dead one", Check.STATE, () -> x.sign(1, 0, true, NONE));
        Check.refuses("by a power of a dead one", Check.STATE, () -> x.sign(1, 2, true, power));
        Check.refuses("as the guardian of a dead one", Check.STATE, () -> x.sign(1, 3, true, NONE));
        Check.equal("the other one still signs", x.sign(1, 1, false, NONE), TAKEN);
        int next = Notary.fullPower(x, 1, 2, NONE, 50, true);
        x.draft(SALE, 1, 3, 0, 1, 2);
        x.die(2);
        Check.refuses("a dead one by a power", Check.STATE, () -> x.sign(3, 2, true, next));
    }

    private static void readAndTold() {
        DeedProtocol x = Notary.withAdults(2);
        x.thing(0, 100);
        x.draft(SALE, 0, 1, 0, 1, 2);
        Check.refuses("no such deed", Check.INDEX, () -> x.add(1, READ));
        Check.refuses("no such deed, no such part", Check.INDEX, () -> x.add(-1, 0));
        for (int part : new int[] {0, GIVEN, TAKEN, DeedProtocol.WITNESSED, READ | TOLD, 32, -1}) {
            Check.refuses("part " + part, Check.ARGUMENT, () -> x.add(0, part));
        }
        Check.equal("READ", x.add(0, READ), READ);
        Check.refuses("READ again", Check.STATE, () -> x.add(0, READ));
        Check.equal("TOLD", x.add(0, TOLD), READ | TOLD);
        Check.refuses("TOLD again", Check.STATE, () -> x.add(0, TOLD));
        Check.equal("with a signature", x.sign(0, 0, true, NONE), READ | TOLD | GIVEN);
        x.draft(SALE, 0, 1, 0, 1, 2);
        x.close(1);
        Check.refuses("a closed deed", Check.STATE, () -> x.add(1, READ));
        Check.refuses("a closed deed, a wrong part", Check.ARGUMENT, () -> x.add(1, GIVEN));
        Check.equal("its parts stay", x.deed(1, 2), 0);
    }

    private static void witnesses() {
        DeedProtocol x = Notary.withAdults(7);
        x.person(17, false);
        x.thing(0, 100);
        int will = x.will(0, 1, 1, 2);
        Check.refuses("no such deed", Check.INDEX, () -> x.witness(1, 2));
        Check.refuses("no such person", Check.INDEX, () -> x.witness(0, 8));
        Check.refuses("NONE", Check.INDEX, () -> x.witness(0, NONE));
        Check.refuses("the giver", Check.STATE, () -> x.witness(will, 0));
        Check.refuses("the taker", Check.STATE, () -> x.witness(will, 1));
        Check.refuses("one under age", Check.STATE, () -> x.witness(will, 7));
        x.guard(6, 5);
        Check.refuses("one with a guardian", Check.STATE, () -> x.witness(will, 6));
        x.guard(6, NONE);
        x.die(6);
        Check.refuses("a dead one", Check.STATE, () -> x.witness(will, 6));
        Check.equal("the first", x.witness(will, 2), 0);
        Check.refuses("the same again", Check.STATE, () -> x.witness(will, 2));
        Check.equal("the second", x.witness(will, 3), DeedProtocol.WITNESSED);
        Check.equal("a third", x.witness(will, 4), DeedProtocol.WITNESSED);
        Check.refuses("the third again", Check.STATE, () -> x.witness(will, 4));
        x.close(will);
        Check.refuses("of a closed deed", Check.STATE, () -> x.witness(will, 5));
        int sale = x.draft(SALE, 0, 1, 0, 1, 2);
        Check.equal("of another deed", x.witness(sale, 2), 0);
        Check.equal("that needs none", x.witness(sale, 5), DeedProtocol.WITNESSED);
        int power = Notary.fullPower(x, 0, 2, NONE, 9, true);
        int signed = x.draft(DeedProtocol.GIFT, 0, 1, 0, 1, 2);
        x.sign(signed, 2, true, power);
        Check.equal("who signed for another one", x.witness(signed, 2), GIVEN);
    }

    private static void witnessesOfTheFamily() {
        DeedProtocol x = Notary.withAdults(8);
        x.thing(0, 100);
        x.child(0, 2);
        x.child(1, 3);
        x.child(2, 5);
        x.child(3, 6);
        x.child(0, 4);
        int sale = x.draft(SALE, 2, 3, 0, 1, 2);
        Check.refuses("the giver's parent", Check.STATE, () -> x.witness(sale, 0));
        Check.refuses("the taker's parent", Check.STATE, () -> x.witness(sale, 1));
        Check.refuses("the giver's child", Check.STATE, () -> x.witness(sale, 5));
        Check.refuses("the taker's child", Check.STATE, () -> x.witness(sale, 6));
        Check.equal("a brother", x.witness(sale, 4), 0);
        x.child(2, 7);
        int other = x.draft(SALE, 0, 1, 0, 1, 2);
        Check.equal("a child's child", x.witness(other, 5), 0);
        x.child(1, 4);
        Check.equal("a witness stays one", x.witness(sale, x.person(20, false)), DeedProtocol.WITNESSED);
    }
}
