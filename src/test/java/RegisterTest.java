/** Promises 21 and 23 to 29: enter, entry, entries, search, pledge, share, shareAnew, duties. */
public final class RegisterTest {
    private static final int NONE = DeedProtocol.NONE;
    private static final int SALE = DeedProtocol.SALE;
    private static final int GIFT = DeedProtocol.GIFT;
    private static final int PLEDGE = DeedProtocol.PLEDGE;

    public static void main(String[] args) {
        salesAndGifts();
        whatCannotBeEntered();
        papersForEntry();
        theDeadEnterNothing();
        greatEnoughShares();
        dutiesOfKinds();
        dutiesAreRoundedTwice();
        pledgesByRank();
        entriesTold();
        searches();
        wrongNumbers();
        hundredEntries();
        tooMuchBelow();
        Check.end();
    }

    private static DeedProtocol withThing(int persons, int value) {
        DeedProtocol x = Notary.withAdults(persons);
        x.thing(0, value);
        return x;
    }

    private static void salesAndGifts() {
        DeedProtocol x = withThing(5, 100);
        Check.equal("a sale", Notary.sell(x, 0, 1, 0, 2, 4), 0);
        Notary.shareIs(x, "half is sold", 0, 0, 1, 2);
        Notary.shareIs(x, "half is sold", 0, 1, 1, 2);
        int gift = Notary.full(x, GIFT, new int[] {1, 2}, 0, new int[] {1, 3}, 3, 4);
        Check.equal("a gift", x.enter(gift), 1);
        Check.equal("its entry", x.deed(gift, 5), 1);
        Notary.shareIs(x, "a third is given", 0, 1, 1, 6);
        Notary.shareIs(x, "a third is given", 0, 2, 1, 3);
        Notary.sell(x, 0, 2, 0, 1, 2);
        Notary.shareIs(x, "all of the half is sold", 0, 0, 0, 1);
        Notary.shareIs(x, "all of the half is sold", 0, 2, 5, 6);
        Notary.sell(x, 2, 0, 0, 5, 6);
        Notary.sell(x, 1, 0, 0, 1, 6);
        Notary.shareIs(x, "all comes back", 0, 0, 1, 1);
        Notary.shareIs(x, "the crown", 0, NONE, 0, 1);
    }

    private static void whatCannotBeEntered() {
        DeedProtocol x = withThing(4, 100);
        int drafted = x.draft(SALE, 0, 1, 0, 1, 2);
        int power = Notary.fullPower(x, 0, 1, 0, 5, true);
        int will = Notary.closedWill(x, 0, 1, 1, 2, 2, 3);
        int lesser = x.draft(SALE, 0, 1, 0, 1, 2);
        x.sign(lesser, 0, true, NONE);
        x.sign(lesser, 1, false, NONE);
        x.close(lesser);
        int empty = x.draft(SALE, 0, 1, 0, 1, 2);
        x.close(empty);
        for (int deed : new int[] {drafted, power, will, lesser, empty}) {
            Check.refuses("deed " + deed, Check.STATE, () -> x.enter(deed));
        }
        Check.refuses("no such deed", Check.INDEX, () -> x.enter(5));
        Check.refuses("NONE", Check.INDEX, () -> x.enter(NONE));
        int sale = Notary.fullSale(x, 0, 1, 0, 1, 4);
        x.enter(sale);
        Check.refuses("the same again", Check.STATE, () -> x.enter(sale));
        Notary.shareIs(x, "once alone", 0, 0, 3, 4);
        Check.equal("entries", x.entries(), 1);
        Check.equal("duties", x.duties(), 1);
    }

    private static void papersForEntry() {
        DeedProtocol x = withThing(2, 100);
        int sale = Notary.fullSale(x, 0, 1, 0, 1, 4);
        x.copy(sale);
        x.lose(sale);
        Check.equal("by a copy of the original", x.enter(sale), 0);
        int other = Notary.fullSale(x, 0, 1, 0, 1, 4);
        x.copy(other);
        x.lose(other);
        x.copy(other);
        x.lose(other);
        Check.refuses("by a copy of a copy", Check.STATE, () -> x.enter(other));
        int lost = Notary.fullSale(x, 0, 1, 0, 1, 4);
        x.lose(lost);
        Check.refuses("without a paper", Check.STATE, () -> x.enter(lost));
        Check.equal("entries", x.entries(), 1);
    }

    private static void theDeadEnterNothing() {
        DeedProtocol x = withThing(4, 100);
        int ofDead = Notary.fullSale(x, 0, 1, 0, 1, 4);
        int forDead = Notary.fullPledge(x, 2, 3, 0, 1, 4);
        Notary.sell(x, 0, 2, 0, 1, 2);
        x.die(0);
        x.die(3);
        Check.refuses("a dead giver", Check.STATE, () -> x.enter(ofDead));
        Check.refuses("a dead taker", Check.STATE, () -> x.enter(forDead));
        Check.equal("no pledge", x.pledge(0, 0), NONE);
    }

    private static void greatEnoughShares() {
        DeedProtocol x = withThing(3, 100);
        Notary.sell(x, 0, 1, 0, 2, 3);
        int tooGreat = Notary.fullSale(x, 0, 2, 0, 34, 100);
        int greatPledge = Notary.fullPledge(x, 0, 2, 0, 34, 100);
        int nothing = Notary.fullSale(x, 2, 0, 0, 1, 100);
        Check.refuses("34 by 100 of a third", Check.STATE, () -> x.enter(tooGreat));
        Check.refuses("a pledge of it", Check.STATE, () -> x.enter(greatPledge));
        Check.refuses("of nothing", Check.STATE, () -> x.enter(nothing));
        Notary.shareIs(x, "nothing is moved", 0, 0, 1, 3);
        Check.equal("33 by 100 of it", Notary.sell(x, 0, 2, 0, 33, 100), 1);
        Notary.shareIs(x, "a little is left", 0, 0, 1, 300);
        Check.equal("what was refused may be entered later", Notary.sell(x, 1, 0, 0, 1, 2), 2);
        Check.equal("as now", x.enter(tooGreat), 3);
        Check.equal("of what one has by then", x.enter(nothing), 4);
        int whole = Notary.fullSale(x, 1, 2, 0, 1, 6);
        Check.equal("exactly what one has", x.enter(whole), 5);
        Notary.shareIs(x, "nothing is left", 0, 1, 0, 1);
    }

    private static void dutiesOfKinds() {
        DeedProtocol x = withThing(6, 1000000);
        x.child(0, 1);
        Notary.sell(x, 0, 2, 0, 1, 2);
        Check.equal("a sale", x.duties(), 25000);
        Notary.sell(x, 0, 1, 0, 1, 10);
        Check.equal("a sale in the family", x.duties(), 30000);
        x.enter(Notary.full(x, GIFT, new int[] {0, 2}, 0, new int[] {1, 10}, 3, 4));
        Check.equal("a gift", x.duties(), 40000);
        x.enter(Notary.full(x, GIFT, new int[] {0, 1}, 0, new int[] {1, 10}, 3, 4));
        Check.equal("a gift to a child", x.duties(), 42000);
        x.enter(Notary.full(x, GIFT, new int[] {1, 0}, 0, new int[] {1, 10}, 3, 4));
        Check.equal("a gift to a parent", x.duties(), 44000);
        x.enter(Notary.fullPledge(x, 2, 3, 0, 1, 10));
        Check.equal("a pledge", x.duties(), 45000);
        int adopted = Notary.full(x, GIFT, new int[] {2, 5}, 0, new int[] {1, 10}, 3, 4);
        x.child(2, 5);
        x.enter(adopted);
        Check.equal("a child when it is entered", x.duties(), 47000);
        x.die(2);
        Check.equal("a death", x.duties(), 47000);
    }

    private static void dutiesAreRoundedTwice() {
        DeedProtocol x = withThing(4, 119);
        Notary.sell(x, 0, 1, 0, 1, 3);
        Check.equal("39 by 20", x.duties(), 1);
        Notary.sell(x, 0, 1, 0, 1, 7);
        Check.equal("17 by 20", x.duties(), 1);
        x.thing(0, 59);
        x.enter(Notary.full(x, GIFT, new int[] {0, 1}, 1, new int[] {2, 3}, 2, 3));
        Check.equal("39 by 10", x.duties(), 4);
        x.thing(0, 1);
        Notary.sell(x, 0, 1, 2, 1, 1);
        Check.equal("1 by 20", x.duties(), 4);
        x.thing(0, 199);
        x.enter(Notary.fullPledge(x, 0, 1, 3, 1, 1));
        Check.equal("199 by 100", x.duties(), 5);
    }

    private static void pledgesByRank() {
        DeedProtocol x = withThing(3, 100);
        x.thing(0, 100);
        int first = Notary.fullPledge(x, 0, 1, 0, 1, 1);
        int second = Notary.fullPledge(x, 0, 2, 0, 1, 1);
        int ofOther = Notary.fullPledge(x, 0, 2, 1, 1, 2);
        int third = Notary.fullPledge(x, 0, 1, 0, 1, 3);
        x.enter(second);
        x.enter(ofOther);
        x.enter(first);
        Notary.sell(x, 0, 1, 0, 1, 2);
        x.enter(third);
        Check.equal("rank 0", x.pledge(0, 0), second);
        Check.equal("rank 1", x.pledge(0, 1), first);
        Check.equal("rank 2", x.pledge(0, 2), third);
        Check.equal("rank 3", x.pledge(0, 3), NONE);
        Check.equal("rank MAX", x.pledge(0, Integer.MAX_VALUE), NONE);
        Check.equal("of the other thing", x.pledge(1, 0), ofOther);
        Check.equal("of the other thing, rank 1", x.pledge(1, 1), NONE);
        Notary.shareIs(x, "pledges move nothing", 0, 0, 1, 2);
        Notary.shareIs(x, "pledges move nothing", 0, 2, 0, 1);
        x.die(0);
        x.die(1);
        Check.equal("pledges outlive their givers", x.pledge(0, 0), second);
    }

    private static void entryIs(DeedProtocol x, int entry, int kind, int about, int thing, int day) {
        int[] due = {kind, about, thing, day};
        for (int what = 0; what < due.length; what++) {
            Check.equal("entry " + entry + ", what " + what, x.entry(entry, what), due[what]);
        }
    }

    private static void entriesTold() {
        DeedProtocol x = withThing(4, 100);
        x.thing(0, 100);
        x.will(0, 1, 1, 2);
        x.pass(3);
        int sale = Notary.fullSale(x, 0, 1, 1, 1, 2);
        int pledge = Notary.fullPledge(x, 1, 0, 1, 1, 2);
        int gift = Notary.full(x, GIFT, new int[] {0, 1}, 0, new int[] {1, 2}, 2, 3);
        Check.equal("entries", x.entries(), 0);
        x.pass(4);
        x.enter(pledge - 1);
        x.pass(1);
        x.enter(pledge);
        x.enter(gift);
        x.pass(2);
        x.die(1);
        Check.equal("entries", x.entries(), 5);
        entryIs(x, 0, SALE, sale, 1, 7);
        entryIs(x, 1, PLEDGE, pledge, 1, 8);
        entryIs(x, 2, GIFT, gift, 0, 8);
        entryIs(x, 3, DeedProtocol.DEATH, 1, 0, 10);
        entryIs(x, 4, DeedProtocol.DEATH, 1, 1, 10);
        Check.refuses("no such entry", Check.INDEX, () -> x.entry(5, 0));
        Check.refuses("NONE", Check.INDEX, () -> x.entry(NONE, 4));
        Check.refuses("what -1", Check.ARGUMENT, () -> x.entry(0, -1));
        Check.refuses("what 4", Check.ARGUMENT, () -> x.entry(0, 4));
    }

    private static void searches() {
        DeedProtocol x = withThing(3, 100);
        x.thing(0, 100);
        x.thing(1, 100);
        for (int i = 0; i < 6; i++) {
            Notary.sell(x, 0, 1, i % 3 == 0 ? 1 : 0, 1, 10);
        }
        x.enter(Notary.fullPledge(x, 1, 2, 0, 1, 10));
        x.die(1);
        Check.equal("all of thing 0", x.search(0, 0, 9), 6);
        Check.equal("all of thing 1", x.search(1, 0, Integer.MAX_VALUE), 3);
        Check.equal("all of thing 2", x.search(2, 0, 100), 1);
        Check.equal("the first alone", x.search(1, 0, 0), 1);
        Check.equal("the first alone, of another", x.search(0, 0, 0), 0);
        Check.equal("1 to 5", x.search(0, 1, 5), 4);
        Check.equal("2 to 3", x.search(0, 2, 3), 1);
        Check.equal("behind the last one", x.search(0, 10, 20), 0);
        Check.equal("far behind", x.search(0, Integer.MAX_VALUE, Integer.MAX_VALUE), 0);
        Check.equal("a death", x.search(0, 7, 7), 1);
        Check.equal("a death of another thing", x.search(0, 8, 9), 0);
        Check.refuses("from -1", Check.ARGUMENT, () -> x.search(0, -1, 3));
        Check.refuses("to under from", Check.ARGUMENT, () -> x.search(0, 3, 2));
        Check.refuses("both below 0", Check.ARGUMENT, () -> x.search(0, -3, -3));
        Check.refuses("no such thing", Check.INDEX, () -> x.search(3, -1, 2));
        Check.refuses("NONE", Check.INDEX, () -> x.search(NONE, 0, 2));
    }

    private static void wrongNumbers() {
        DeedProtocol x = withThing(2, 100);
        Check.refuses("pledge of no thing", Check.INDEX, () -> x.pledge(1, 0));
        Check.refuses("pledge of NONE", Check.INDEX, () -> x.pledge(NONE, 0));
        Check.refuses("rank -1", Check.INDEX, () -> x.pledge(0, -1));
        for (int number : new int[] {2, -2, Integer.MIN_VALUE, Integer.MAX_VALUE}) {
            Check.refuses("share of person " + number, Check.INDEX, () -> x.share(0, number, true));
            Check.refuses("share of thing " + number, Check.INDEX, () -> x.share(number, 0, true));
            Check.refuses("shareAnew of person " + number, Check.INDEX, () -> x.shareAnew(0, number, false));
            Check.refuses("shareAnew of thing " + number, Check.INDEX, () -> x.shareAnew(number, 0, false));
        }
        Check.refuses("share of thing NONE", Check.INDEX, () -> x.share(NONE, 0, true));
        Check.refuses("shareAnew of thing NONE", Check.INDEX, () -> x.shareAnew(NONE, 0, true));
    }

    /** Deeds are 60, so the dead fill the rest: 8 things pass through 12 hands. */
    private static void hundredEntries() {
        DeedProtocol x = Notary.withAdults(12);
        for (int i = 0; i < 8; i++) {
            x.thing(0, 100);
        }
        for (int i = 1; i < 12; i++) {
            x.child(i - 1, i);
        }
        for (int i = 0; i < 11; i++) {
            Check.equal("death " + i, x.die(i), 8);
        }
        Check.equal("entries of deaths", x.entries(), 88);
        Check.refuses("a dead one again", Check.STATE, () -> x.die(0));
        Check.equal("the last one", x.die(11), 8);
        Check.equal("entries", x.entries(), 96);
        Notary.shareIs(x, "all is the crown's", 7, NONE, 1, 1);
        hundredWithDeeds();
    }

    /** Six have died, each the next one's parent, and so many pledges are entered then. */
    private static DeedProtocol withEntries(int pledges) {
        DeedProtocol x = Notary.withAdults(12);
        for (int i = 0; i < 8; i++) {
            x.thing(0, 100);
        }
        for (int i = 1; i < 12; i++) {
            x.child(i - 1, i);
        }
        for (int i = 0; i < 6; i++) {
            x.die(i);
        }
        for (int i = 0; i < pledges; i++) {
            x.enter(Notary.fullPledge(x, 6, 7, i % 8, 1, 2));
        }
        Check.equal("entries", x.entries(), 48 + pledges);
        return x;
    }

    private static void hundredWithDeeds() {
        DeedProtocol y = withEntries(44);
        Check.equal("8 more are 100", y.die(6), 8);
        DeedProtocol x = withEntries(45);
        Check.refuses("8 more", Check.STATE, () -> x.die(6));
        Check.yes("it lives still", x.isAble(6));
        Notary.shareIs(x, "nothing is moved", 0, 6, 1, 1);
        Check.equal("entries", x.entries(), 93);
        Check.equal("one without a share dies still", x.die(9), 0);
        int spare = Notary.fullPledge(x, 6, 7, 0, 1, 2);
        for (int i = 0; i < 7; i++) {
            x.enter(Notary.fullPledge(x, 6, 7, 0, 1, 2));
        }
        Check.equal("entries", x.entries(), 100);
        long duties = x.duties();
        Check.refuses("the 101st", Check.STATE, () -> x.enter(spare));
        Check.equal("no duty of it", x.duties(), duties);
        Check.equal("no entry of it", x.deed(spare, 5), NONE);
    }

    /** 72 * 17 * 19 is 23256; times 43 it is 1000008. */
    private static void tooMuchBelow() {
        DeedProtocol x = withThing(6, 100);
        Notary.sell(x, 0, 1, 0, 1, 72);
        Notary.sell(x, 0, 2, 0, 1, 17);
        Notary.sell(x, 0, 3, 0, 1, 19);
        int left = 23256 - 17 * 19 - 72 * 19 - 72 * 17;
        Notary.shareIs(x, "below the bound", 0, 0, left, 23256);
        int more = Notary.fullSale(x, 0, 4, 0, 1, 43);
        long duties = x.duties();
        x.thing(5, 100);
        Check.equal("another thing is asked for between", x.shareAnew(1, 5, true), 1);
        Check.refuses("the giver's share", Check.STATE, () -> x.enter(more));
        Check.equal("entries", x.entries(), 3);
        Check.equal("duties", x.duties(), duties);
        Check.equal("its entry", x.deed(more, 5), NONE);
        Notary.shareIs(x, "nothing is moved", 0, 4, 0, 1);
        Notary.shareIs(x, "nothing is moved", 0, 0, left, 23256);
        Check.equal("a pledge moves nothing", x.enter(Notary.fullPledge(x, 0, 4, 0, 1, 43)), 3);
        Notary.sell(x, 1, 0, 0, 1, 72);
        Notary.sell(x, 2, 0, 0, 1, 17);
        Notary.sell(x, 3, 0, 0, 1, 19);
        Notary.shareIs(x, "in lowest terms", 0, 0, 1, 1);
        Check.equal("it may be entered then", x.enter(more), 7);
        tooMuchBelowOfTheTaker();
    }

    private static void tooMuchBelowOfTheTaker() {
        DeedProtocol x = withThing(4, 100);
        Notary.sell(x, 0, 1, 0, 1, 2);
        Notary.sell(x, 0, 2, 0, 1, 97);
        Notary.sell(x, 0, 2, 0, 1, 89);
        Notary.sell(x, 1, 3, 0, 1, 83);
        Notary.sell(x, 1, 3, 0, 1, 79);
        Notary.sell(x, 3, 2, 0, 1, 83);
        Notary.shareIs(x, "below the bound", 0, 2, 89 * 83 + 97 * 83 + 97 * 89, 97 * 89 * 83);
        int last = Notary.fullSale(x, 3, 2, 0, 1, 79);
        Check.refuses("the taker's share", Check.STATE, () -> x.enter(last));
        Notary.shareIs(x, "nothing is moved", 0, 3, 1, 79);
    }
}
