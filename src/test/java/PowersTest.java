/** Promises 16 and 17: revoke, isGood; and the chains of powers. */
public final class PowersTest {
    private static final int NONE = DeedProtocol.NONE;
    private static final int READ = DeedProtocol.READ;

    public static void main(String[] args) {
        goodByState();
        goodByDays();
        goodFor30Days();
        revoked();
        revokeIsRefused();
        goodByLife();
        chains();
        chainsThatEnd();
        handedOnAgainstThePower();
        signedByGuardian();
        longChain();
        Check.end();
    }

    private static void goodByState() {
        DeedProtocol x = Notary.withAdults(3);
        x.thing(0, 100);
        int power = x.power(0, 1, NONE, 100, false);
        Check.no("drafted", x.isGood(power));
        x.sign(power, 0, true, NONE);
        x.add(power, READ);
        Check.no("drafted with all parts", x.isGood(power));
        x.close(power);
        Check.yes("FULL", x.isGood(power));
        int empty = x.power(0, 1, NONE, 100, false);
        x.add(empty, READ);
        x.close(empty);
        Check.no("VOID", x.isGood(empty));
        int lesser = x.power(0, 1, NONE, 100, false);
        x.sign(lesser, 0, true, NONE);
        x.close(lesser);
        Check.yes("LESSER", x.isGood(lesser));
        Check.no("a sale", x.isGood(Notary.fullSale(x, 0, 1, 0, 1, 2)));
        Check.no("a will", x.isGood(Notary.closedWill(x, 0, 1, 1, 2)));
        Check.refuses("no such deed", Check.INDEX, () -> x.isGood(5) ? 1 : 0);
        Check.refuses("NONE", Check.INDEX, () -> x.isGood(NONE) ? 1 : 0);
    }

    private static void goodByDays() {
        DeedProtocol x = Notary.withAdults(2);
        x.pass(5);
        int power = x.power(0, 1, NONE, 10, false);
        x.pass(4);
        x.sign(power, 0, true, NONE);
        x.add(power, READ);
        x.close(power);
        x.pass(6);
        Check.yes("on the last day", x.isGood(power));
        x.pass(1);
        Check.no("behind it", x.isGood(power));
        int late = x.power(0, 1, NONE, 1, false);
        x.sign(late, 0, true, NONE);
        x.add(late, READ);
        x.pass(2);
        Check.equal("closed when its days are over", x.close(late), DeedProtocol.FULL);
        Check.no("it is not good", x.isGood(late));
        int longest = Notary.fullPower(x, 0, 1, NONE, 1000, false);
        x.pass(1000);
        Check.yes("the thousandth day", x.isGood(longest));
        x.pass(1);
        Check.no("behind the thousandth day", x.isGood(longest));
    }

    private static void goodFor30Days() {
        DeedProtocol x = Notary.withAdults(2);
        int lesser = x.power(0, 1, NONE, 100, false);
        int few = x.power(0, 1, NONE, 45, false);
        x.sign(lesser, 0, true, NONE);
        x.sign(few, 0, true, NONE);
        x.pass(20);
        x.close(lesser);
        x.close(few);
        x.pass(25);
        Check.yes("the last of the fewer days", x.isGood(few));
        x.pass(1);
        Check.no("behind the fewer days", x.isGood(few));
        x.pass(4);
        Check.yes("30 days behind that of closing", x.isGood(lesser));
        x.pass(1);
        Check.no("31 days behind that of closing", x.isGood(lesser));
    }

    private static void revoked() {
        DeedProtocol x = Notary.withAdults(2);
        int power = Notary.fullPower(x, 0, 1, NONE, 100, false);
        int other = Notary.fullPower(x, 0, 1, NONE, 100, false);
        Check.no("was it revoked", x.revoke(power, false));
        Check.yes("the taker does not know", x.isGood(power));
        Check.yes("was it revoked", x.revoke(power, false));
        Check.yes("the taker does not know still", x.isGood(power));
        Check.yes("was it revoked", x.revoke(power, true));
        Check.no("the taker knows", x.isGood(power));
        Check.yes("was it revoked", x.revoke(power, true));
        Check.no("the taker is told again", x.isGood(power));
        Check.yes("was it revoked", x.revoke(power, false));
        Check.no("the taker goes on to know", x.isGood(power));
        Check.yes("the other one is good", x.isGood(other));
        Check.no("was the other one revoked", x.revoke(other, true));
        Check.no("the taker knows at once", x.isGood(other));
    }

    private static void revokeIsRefused() {
        DeedProtocol x = Notary.withAdults(2);
        x.thing(0, 100);
        int power = x.power(0, 1, NONE, 100, false);
        int sale = Notary.fullSale(x, 0, 1, 0, 1, 2);
        int will = Notary.closedWill(x, 0, 1, 1, 2);
        Check.refuses("no such deed", Check.INDEX, () -> x.revoke(3, true) ? 1 : 0);
        Check.refuses("NONE", Check.INDEX, () -> x.revoke(NONE, true) ? 1 : 0);
        Check.refuses("a drafted power", Check.STATE, () -> x.revoke(power, true) ? 1 : 0);
        Check.refuses("a sale", Check.STATE, () -> x.revoke(sale, true) ? 1 : 0);
        Check.refuses("a will", Check.STATE, () -> x.revoke(will, true) ? 1 : 0);
        x.close(power);
        Check.no("a VOID power is closed", x.revoke(power, false));
        Check.yes("and revoked then", x.revoke(power, false));
    }

    private static void goodByLife() {
        DeedProtocol x = Notary.withAdults(4);
        int power = Notary.fullPower(x, 0, 1, NONE, 100, false);
        int other = Notary.fullPower(x, 2, 3, NONE, 100, false);
        x.guard(0, 2);
        Check.yes("the giver is not able any more", x.isGood(power));
        x.guard(1, 2);
        Check.yes("nor the taker", x.isGood(power));
        x.die(0);
        Check.no("the giver is dead", x.isGood(power));
        x.die(3);
        Check.yes("the taker's death is not told of", x.isGood(other));
    }

    private static void chains() {
        DeedProtocol x = Notary.withAdults(6);
        x.thing(0, 100);
        int first = Notary.fullPower(x, 0, 1, NONE, 100, true);
        int second = Notary.signedPower(x, new int[] {0, 2}, NONE, 100, true, 1, first);
        int third = Notary.signedPower(x, new int[] {0, 3}, 0, 100, false, 2, second);
        Check.yes("the third", x.isGood(third));
        int sale = x.draft(DeedProtocol.SALE, 0, 5, 0, 1, 2);
        Check.equal("who has it from the third hand", x.sign(sale, 3, true, third), DeedProtocol.GIVEN);
        x.revoke(second, false);
        Check.yes("the second's taker does not know", x.isGood(third));
        x.revoke(first, true);
        Check.no("the second hangs on the first", x.isGood(second));
        Check.no("the third hangs on it, too", x.isGood(third));
        Check.equal("what was signed stays", x.deed(sale, 2), DeedProtocol.GIVEN);
        Check.refuses("what was signed is signed", Check.STATE, () -> x.sign(sale, 0, true, NONE));
    }

    private static void chainsThatEnd() {
        DeedProtocol x = Notary.withAdults(4);
        int first = Notary.fullPower(x, 0, 1, NONE, 10, true);
        int second = Notary.signedPower(x, new int[] {0, 2}, NONE, 100, true, 1, first);
        x.pass(10);
        Check.yes("on the first one's last day", x.isGood(second));
        x.pass(1);
        Check.no("the first one's days are over", x.isGood(second));
        int lesser = x.power(0, 1, NONE, 100, true);
        x.sign(lesser, 0, true, NONE);
        x.close(lesser);
        int next = Notary.signedPower(x, new int[] {0, 2}, NONE, 100, true, 1, lesser);
        x.pass(30);
        Check.yes("on the LESSER one's last day", x.isGood(next));
        x.pass(1);
        Check.no("the LESSER one's days are over", x.isGood(next));
    }

    private static void handedOnAgainstThePower() {
        DeedProtocol x = Notary.withAdults(5);
        x.thing(0, 100);
        int stays = Notary.fullPower(x, 0, 1, NONE, 100, false);
        int second = x.power(0, 2, NONE, 100, true);
        Check.equal("signing is not hindered", x.sign(second, 1, true, stays), DeedProtocol.GIVEN);
        x.add(second, READ);
        Check.equal("nor closing", x.close(second), DeedProtocol.FULL);
        Check.no("but it is not good", x.isGood(second));
        Check.yes("the first is", x.isGood(stays));
        int sale = x.draft(DeedProtocol.SALE, 0, 4, 0, 1, 2);
        Check.refuses("who signs by it", Check.STATE, () -> x.sign(sale, 2, true, second));
        Check.equal("who signs by the first", x.sign(sale, 1, true, stays), DeedProtocol.GIVEN);
    }

    private static void signedByGuardian() {
        DeedProtocol x = Notary.withAdults(4);
        int revoked = Notary.fullPower(x, 0, 1, NONE, 100, false);
        x.guard(0, 1);
        int power = Notary.signedPower(x, new int[] {0, 2}, NONE, 100, true, 1, revoked);
        Check.yes("what a guardian signs hangs on no power", x.isGood(power));
        x.revoke(revoked, true);
        Check.yes("whatever becomes of it", x.isGood(power));
        x.guard(0, NONE);
        int own = Notary.signedPower(x, new int[] {0, 2}, NONE, 100, true, 0, revoked);
        Check.yes("nor what the giver signs", x.isGood(own));
    }

    private static void longChain() {
        DeedProtocol x = Notary.withAdults(12);
        int last = Notary.fullPower(x, 0, 1, NONE, 100, true);
        for (int i = 1; i < 60; i++) {
            int holder = 1 + (i - 1) % 11;
            int taker = 1 + i % 11;
            last = Notary.signedPower(x, new int[] {0, taker}, NONE, 100, true, holder, last);
        }
        Check.equal("the last one's number", last, 59);
        Check.yes("sixty in a chain", x.isGood(last));
        x.revoke(0, false);
        Check.yes("the first one's taker does not know", x.isGood(last));
        x.revoke(0, true);
        Check.no("all hang on the first", x.isGood(last));
        Check.no("the second, too", x.isGood(1));
    }
}
