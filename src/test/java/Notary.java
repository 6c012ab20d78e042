/** Short ways to states that many tests start from. */
final class Notary {
    static final int NONE = DeedProtocol.NONE;

    private Notary() {
    }

    /** A new object with so many persons of 40 years, none of them foreign. */
    static DeedProtocol withAdults(int count) {
        DeedProtocol x = new DeedProtocol();
        for (int i = 0; i < count; i++) {
            x.person(40, false);
        }
        return x;
    }

    /** Drafts and closes a FULL SALE, GIFT or PLEDGE; the witnesses count for a GIFT alone. */
    static int full(DeedProtocol x, int kind, int[] sides, int thing, int[] part, int... witnesses) {
        int deed = x.draft(kind, sides[0], sides[1], thing, part[0], part[1]);
        x.sign(deed, sides[0], true, NONE);
        x.sign(deed, sides[1], false, NONE);
        x.add(deed, DeedProtocol.READ);
        for (int witness : witnesses) {
            x.witness(deed, witness);
        }
        Check.equal("closing of a deed that has all", x.close(deed), DeedProtocol.FULL);
        return deed;
    }

    static int fullSale(DeedProtocol x, int giver, int taker, int thing, int above, int below) {
        return full(x, DeedProtocol.SALE, new int[] {giver, taker}, thing, new int[] {above, below});
    }

    static int fullPledge(DeedProtocol x, int giver, int taker, int thing, int above, int below) {
        return full(x, DeedProtocol.PLEDGE, new int[] {giver, taker}, thing, new int[] {above, below});
    }

    static int sell(DeedProtocol x, int giver, int taker, int thing, int above, int below) {
        return x.enter(fullSale(x, giver, taker, thing, above, below));
    }

    /** A FULL POWER, signed by the giver itself. */
    static int fullPower(DeedProtocol x, int giver, int taker, int thing, int days, boolean goesOn) {
        return signedPower(x, new int[] {giver, taker}, thing, days, goesOn, giver, NONE);
    }

    static int signedPower(DeedProtocol x, int[] sides, int thing, int days, boolean goesOn, int signer, int by) {
        int deed = x.power(sides[0], sides[1], thing, days, goesOn);
        x.sign(deed, signer, true, by);
        x.add(deed, DeedProtocol.READ);
        Check.equal("closing of a power that has all", x.close(deed), DeedProtocol.FULL);
        return deed;
    }

    /** A will that is signed and closed; FULL with two witnesses, LESSER with none. */
    static int closedWill(DeedProtocol x, int giver, int taker, int above, int below, int... witnesses) {
        int deed = x.will(giver, taker, above, below);
        x.sign(deed, giver, true, NONE);
        x.add(deed, DeedProtocol.READ);
        for (int witness : witnesses) {
            x.witness(deed, witness);
        }
        int due = witnesses.length >= 2 ? DeedProtocol.FULL : DeedProtocol.LESSER;
        Check.equal("closing of a will", x.close(deed), due);
        return deed;
    }

    /**
     * Lets 3 have 1 by all three numbers multiplied of thing 0, which is 0's: 1 buys the first part, 2
     * inherits the second of it, 3 the third of that; what 1 and 2 leave beside goes to the crown.
     */
    static void leaveLittle(DeedProtocol x, int first, int second, int third) {
        sell(x, 0, 1, 0, 1, first);
        closedWill(x, 1, 2, 1, second);
        closedWill(x, 2, 3, 1, third);
        x.die(1);
        x.die(2);
    }

    /**
     * So many entries, 81 or more: 8 things go from 0 to 10 by ten deaths, then 11 buys a half of thing 0
     * of 10, then there are pledges of 10 for 11. The last pledge is not entered.
     */
    static DeedProtocol withEntries(int count) {
        DeedProtocol x = withAdults(12);
        for (int i = 0; i < 8; i++) {
            x.thing(0, 100);
        }
        for (int i = 0; i < 10; i++) {
            x.child(i, i + 1);
            x.die(i);
        }
        sell(x, 10, 11, 0, 1, 2);
        for (int i = 81; i < count; i++) {
            x.enter(fullPledge(x, 10, 11, i % 8, 1, 2));
        }
        fullPledge(x, 10, 11, 0, 1, 2);
        Check.equal("entries at first", x.entries(), count);
        return x;
    }

    static void shareIs(DeedProtocol x, String when, int thing, int person, int above, int below) {
        Check.equal(when + ": above of " + person, x.share(thing, person, false), above);
        Check.equal(when + ": below of " + person, x.share(thing, person, true), below);
        Check.equal(when + ": above anew of " + person, x.shareAnew(thing, person, false), above);
        Check.equal(when + ": below anew of " + person, x.shareAnew(thing, person, true), below);
    }
}
