/** The edges of entering: what can be entered, ranks, duties; and promises 21 and 29. */
public final class EdgesOfEnteringTest {
    private static final int NONE = DeedProtocol.NONE;
    private static final int SALE = DeedProtocol.SALE;
    private static final int GIFT = DeedProtocol.GIFT;
    private static final int PLEDGE = DeedProtocol.PLEDGE;
    private static final int MIN = Integer.MIN_VALUE;
    private static final int MAX = Integer.MAX_VALUE;
    private static final Class<?> INDEX = Check.INDEX;
    private static final Class<?> STATE = Check.STATE;
    private static final int[] OF_A_THING = {SALE, GIFT, PLEDGE};

    /** Persons 0 to 7; things 0 and 1 of 0, of the value 100. */
    private static final Edge EIGHT = valued(100);

    /** Deed 0, a FULL sale of 1 by 4 of thing 0 by 0 to 1. */
    private static final Edge SOLD = EIGHT.after(x -> Notary.fullSale(x, 0, 1, 0, 1, 4));

    public static void main(String[] args) throws IllegalAccessException {
        Sentences.hold(EdgesOfEnteringTest.class);
    }

    private static Edge valued(int value) {
        return new Edge(() -> {
            DeedProtocol x = Notary.withAdults(8);
            x.thing(0, value);
            x.thing(0, value);
            return x;
        });
    }

    /** A FULL deed of any of the three kinds, with 6 and 7 as witnesses. */
    private static long full(DeedProtocol x, int kind, int giver, int taker, int above, int below) {
        return Notary.full(x, kind, new int[] {giver, taker}, 0, new int[] {above, below}, 6, 7);
    }

    private static long enterFull(DeedProtocol x, int kind, int giver, int taker, int above, int below) {
        return x.enter((int) full(x, kind, giver, taker, above, below));
    }

    private static void shareIs(Edge edge, String what, int person, int above, int below) {
        edge.answers(what + ", above of " + person, above, x -> x.share(0, person, false));
        edge.answers(what + ", below of " + person, below, x -> x.share(0, person, true));
        edge.answers(what + ", above anew of " + person, above, x -> x.shareAnew(0, person, false));
        edge.answers(what + ", below anew of " + person, below, x -> x.shareAnew(0, person, true));
    }

    // ---- what can be entered

    @Says(promise = 0, words = "A SALE, GIFT or PLEDGE that is FULL, and of which there is a paper of the grade 0 or 1, can be entered once")
    static void fullOnesOfThreeKinds() {
        for (int kind : OF_A_THING) {
            EIGHT.answers("a FULL one of " + kind, 0, x -> enterFull(x, kind, 0, 1, 1, 4));
            Edge lesser = EIGHT.after(x -> x.draft(kind, 0, 1, 0, 1, 4), x -> x.sign(0, 0, true, NONE),
                    x -> x.sign(0, 1, false, NONE));
            lesser.refuses("a drafted one of " + kind, STATE, x -> x.enter(0));
            lesser.after(x -> x.close(0)).refuses("a LESSER one of " + kind, STATE, x -> x.enter(0));
            Edge empty = EIGHT.after(x -> x.close(x.draft(kind, 0, 1, 0, 1, 4)));
            empty.refuses("a VOID one of " + kind, STATE, x -> x.enter(0));
        }
        Edge others = EIGHT.after(x -> Notary.fullPower(x, 0, 1, 0, 5, true), x -> Notary.closedWill(x, 0, 1, 1, 2, 6, 7));
        others.refuses("a FULL POWER", STATE, x -> x.enter(0));
        others.refuses("a FULL WILL", STATE, x -> x.enter(1));
        Edge drafted = EIGHT.after(x -> x.draft(SALE, 0, 1, 0, 1, 4), x -> x.sign(0, 0, true, NONE),
                x -> x.sign(0, 1, false, NONE), x -> x.add(0, DeedProtocol.READ));
        drafted.refuses("one with all that is not closed", STATE, x -> x.enter(0));
    }

    @Says(promise = 0, words = "of which there is a paper of the grade 0 or 1")
    static void byGrade0Or1() {
        SOLD.answers("grade 0", 0, x -> x.enter(0));
        SOLD.answers("grades 0 and 1", 0, x -> x.copy(0), x -> x.enter(0));
        Edge one = SOLD.after(x -> x.copy(0), x -> x.lose(0));
        one.answers("grade 1", 0, x -> x.enter(0));
        one.answers("grades 1 and 2", 0, x -> x.copy(0), x -> x.enter(0));
        Edge two = one.after(x -> x.copy(0), x -> x.lose(0));
        two.refuses("grade 2", STATE, x -> x.enter(0));
        two.after(x -> x.copy(0)).refuses("grades 2 and 3", STATE, x -> x.enter(0));
        two.after(x -> x.copy(0), x -> x.lose(0)).refuses("grade 3", STATE, x -> x.enter(0));
        SOLD.after(x -> x.lose(0)).refuses("no paper", STATE, x -> x.enter(0));
        two.after(x -> x.lose(0)).refuses("no paper any more", STATE, x -> x.enter(0));
    }

    @Says(promise = 0, words = "can be entered once")
    static void once() {
        for (int kind : OF_A_THING) {
            Edge entered = EIGHT.after(x -> enterFull(x, kind, 0, 1, 1, 4));
            entered.refuses("again, of " + kind, STATE, x -> x.enter(0));
            entered.after(x -> x.copy(0)).refuses("again, by a copy, of " + kind, STATE, x -> x.enter(0));
            entered.answers("another one just as it, of " + kind, 1, x -> enterFull(x, kind, 0, 1, 1, 4));
        }
    }

    @Says(promise = 0, words = "if both live")
    static void bothLive() {
        for (int kind : OF_A_THING) {
            Edge deed = EIGHT.after(x -> full(x, kind, 0, 1, 1, 4));
            deed.after(x -> x.die(1)).refuses("a dead taker, of " + kind, STATE, x -> x.enter(0));
            deed.after(x -> x.die(0)).refuses("a dead giver, of " + kind, STATE, x -> x.enter(0));
            deed.answers("dead witnesses, of " + kind, 0, x -> x.die(6), x -> x.die(7), x -> x.enter(0));
            deed.answers("not able, of " + kind, 0, x -> x.guard(0, 2), x -> x.guard(1, 2), x -> x.enter(0));
        }
    }

    @Says(promise = 0, words = "the giver has at least so great a share of the thing then")
    static void atLeastSoGreatAShare() {
        for (int kind : OF_A_THING) {
            Edge third = EIGHT.after(x -> Notary.sell(x, 0, 1, 0, 2, 3), x -> full(x, kind, 0, 2, 1, 3),
                    x -> full(x, kind, 0, 2, 33, 100), x -> full(x, kind, 0, 2, 34, 100),
                    x -> full(x, kind, 3, 2, 1, 100), x -> full(x, kind, 0, 2, 2, 5));
            third.answers("exactly so great, of " + kind, 1, x -> x.enter(1));
            third.answers("a little greater, of " + kind, 1, x -> x.enter(2));
            third.refuses("a little smaller, of " + kind, STATE, x -> x.enter(3));
            third.refuses("none, of " + kind, STATE, x -> x.enter(4));
            third.answers("as much as there is then, of " + kind, 2, x -> Notary.sell(x, 1, 0, 0, 1, 15), x -> x.enter(5));
            third.after(x -> Notary.sell(x, 1, 0, 0, 1, 16)).refuses("less than that, of " + kind, STATE, x -> x.enter(5));
            third.answers("of another thing", 1, x -> Notary.fullSale(x, 0, 2, 1, 1, 1), x -> x.enter(6));
        }
        EIGHT.answers("the whole", 0, x -> Notary.sell(x, 0, 1, 0, 100, 100));
        EIGHT.after(x -> Notary.sell(x, 0, 1, 0, 1, 100), x -> Notary.fullSale(x, 0, 2, 0, 100, 100))
                .refuses("the whole, when there is less", STATE, x -> x.enter(1));
    }

    @Says(promise = 0, words = "Nobody gives what they have not.")
    static void nothingIsNotGiven() {
        Edge bought = EIGHT.after(x -> Notary.fullSale(x, 1, 2, 0, 1, 4), x -> Notary.sell(x, 0, 1, 1, 1, 1));
        bought.refuses("of one who has another thing", STATE, x -> x.enter(0));
        bought.answers("when it is had", 2, x -> Notary.sell(x, 0, 1, 0, 1, 4), x -> x.enter(0));
        bought.after(x -> Notary.sell(x, 0, 1, 0, 1, 4), x -> Notary.sell(x, 1, 3, 0, 1, 4))
                .refuses("when it is had no more", STATE, x -> x.enter(0));
    }

    @Says(promise = 0, words = "By a SALE or GIFT the share goes to the taker; a PLEDGE gets the next rank of the thing.")
    static void whatIsBroughtAbout() {
        for (int kind : new int[] {SALE, GIFT}) {
            Edge entered = EIGHT.after(x -> enterFull(x, kind, 0, 1, 1, 4));
            shareIs(entered, "kind " + kind, 0, 3, 4);
            shareIs(entered, "kind " + kind, 1, 1, 4);
            shareIs(entered, "kind " + kind, NONE, 0, 1);
            entered.answers("no pledge", NONE, x -> x.pledge(0, 0));
            entered.answers("the other thing stays", 1, x -> x.share(1, 0, true));
            Edge whole = EIGHT.after(x -> enterFull(x, kind, 0, 1, 1, 1));
            shareIs(whole, "the whole, kind " + kind, 0, 0, 1);
            shareIs(whole, "the whole, kind " + kind, 1, 1, 1);
        }
        Edge pledged = EIGHT.after(x -> enterFull(x, PLEDGE, 0, 1, 1, 4));
        shareIs(pledged, "a pledge", 0, 1, 1);
        shareIs(pledged, "a pledge", 1, 0, 1);
        pledged.answers("the rank 0", 0, x -> x.pledge(0, 0));
        pledged.answers("no rank 1", NONE, x -> x.pledge(0, 1));
        pledged.answers("the next rank", 1, x -> enterFull(x, PLEDGE, 0, 1, 1, 1), x -> x.pledge(0, 1));
        pledged.answers("the next rank, a sale between", 2, x -> enterFull(x, SALE, 0, 2, 1, 4),
                x -> enterFull(x, PLEDGE, 2, 0, 1, 4), x -> x.pledge(0, 1));
    }

    @Says(promise = 0, words = "Entries are numbered from 0, at most 100.")
    static void hundredEntries() {
        SOLD.answers("the first", 0, x -> x.enter(0));
        SOLD.answers("the second", 1, x -> Notary.sell(x, 0, 2, 0, 1, 4), x -> x.enter(0));
        SOLD.answers("the entry of the deed", 1, x -> Notary.sell(x, 0, 2, 0, 1, 4), x -> x.enter(0), x -> x.deed(0, 5));
        Edge last = new Edge(() -> Notary.withEntries(99));
        last.answers("the hundredth", 99, x -> x.enter(19));
        last.answers("how many then", 100, x -> x.enter(19), x -> x.entries());
        Edge full = new Edge(() -> Notary.withEntries(100));
        full.refuses("a hundred and first", STATE, x -> x.enter(20));
        full.answers("the hundredth is there", PLEDGE, x -> x.entry(99, 0));
    }

    // ---- enter

    @Says(promise = 21, words = "Throws `IndexOutOfBoundsException` if there is no such deed")
    static void enterNoDeed() {
        SOLD.answers("the first", 0, x -> x.enter(0));
        SOLD.refusesEach("deed", INDEX, (x, deed) -> x.enter(deed), NONE, 1, MIN, MAX);
        new Edge(() -> Notary.withEntries(100)).refusesEach("deed, when there are 100", INDEX,
                (x, deed) -> x.enter(deed), NONE, 21);
    }

    @Says(promise = 21, words = "Throws `IllegalStateException` if it cannot be entered, or there are 100 entries")
    static void refusedEntriesTakeNothing() {
        Edge tried = SOLD.after(x -> Notary.fullSale(x, 2, 1, 0, 1, 4), x -> Check.outcome(() -> x.enter(1)));
        tried.refuses("of one who has nothing", STATE, x -> x.enter(1));
        tried.answers("the number behind it is the one before", 0, x -> x.enter(0));
        tried.answers("no duty of it", 0, DeedProtocol::duties);
        tried.answers("no entry of it", NONE, x -> x.deed(1, 5));
    }

    // ---- 1000000 below

    /** 3 has 1 by 1000000. */
    private static final Edge MILLIONTH = EIGHT.after(x -> {
        Notary.leaveLittle(x, 100, 100, 100);
        return 0;
    });

    /** 3 has 1 by 250001, a quarter of which is the first share that is too small. */
    private static final Edge TOO_SMALL_SOON = EIGHT.after(x -> {
        Notary.leaveLittle(x, 89, 53, 53);
        return 0;
    });

    @Says(promise = 0, words = "also, where shares move, if one's share of a thing, in lowest terms, would have more than 1000000 below behind the call")
    static void theTakersShare() {
        shareIs(MILLIONTH, "at first", 3, 1, 1000000);
        shareIs(MILLIONTH.after(x -> Notary.sell(x, 0, 3, 0, 1, 2)), "1000000 below", 3, 500001, 1000000);
        MILLIONTH.after(x -> Notary.fullSale(x, 0, 3, 0, 1, 3)).refuses("3000000 below", STATE, x -> x.enter(3));
        shareIs(TOO_SMALL_SOON, "at first", 3, 1, 250001);
        shareIs(TOO_SMALL_SOON.after(x -> Notary.sell(x, 0, 3, 0, 1, 3)), "750003 below", 3, 250004, 750003);
        Edge gift = TOO_SMALL_SOON.after(x -> full(x, GIFT, 0, 3, 1, 4));
        gift.refuses("1000004 below, by a gift", STATE, x -> x.enter(3));
        TOO_SMALL_SOON.after(x -> Notary.fullSale(x, 0, 3, 0, 1, 4)).refuses("1000004 below", STATE, x -> x.enter(3));
    }

    @Says(promise = 0, words = "also, where shares move, if one's share of a thing, in lowest terms, would have more than 1000000 below behind the call")
    static void theGiversShare() {
        Edge half = MILLIONTH.after(x -> Notary.sell(x, 0, 3, 0, 1, 2), x -> Notary.fullSale(x, 3, 4, 0, 1, 4),
                x -> Notary.fullSale(x, 3, 4, 0, 1, 3));
        shareIs(half.after(x -> x.enter(4)), "1000000 below", 3, 250001, 1000000);
        half.refuses("3000000 below", STATE, x -> x.enter(5));
        Edge soon = TOO_SMALL_SOON.after(x -> Notary.sell(x, 0, 3, 0, 1, 2), x -> Notary.fullSale(x, 3, 4, 0, 1, 4),
                x -> Notary.fullSale(x, 3, 4, 0, 1, 2));
        soon.refuses("1000004 below", STATE, x -> x.enter(4));
        shareIs(soon.after(x -> x.enter(5)), "a half", 3, 1, 250001);
    }

    @Says(promise = 0, words = "in lowest terms")
    static void inLowestTerms() {
        shareIs(MILLIONTH.after(x -> Notary.sell(x, 0, 3, 0, 1, 64)), "a 64th, and a millionth", 3, 7813, 500000);
        shareIs(MILLIONTH.after(x -> Notary.sell(x, 0, 3, 0, 50, 100)), "50 by 100, and a millionth", 3, 500001, 1000000);
        Edge sales = EIGHT.after(x -> Notary.sell(x, 0, 1, 0, 1, 27), x -> Notary.sell(x, 0, 2, 0, 1, 37),
                x -> Notary.sell(x, 0, 3, 0, 1, 77), x -> Notary.sell(x, 0, 4, 0, 1, 13));
        int left = 999999 - 999999 / 27 - 999999 / 37 - 999999 / 77 - 999999 / 13;
        shareIs(sales, "999999 below", 0, left, 999999);
        Edge more = sales.after(x -> Notary.fullSale(x, 0, 5, 0, 1, 2));
        more.refuses("1999998 below", STATE, x -> x.enter(4));
        shareIs(sales.after(x -> Notary.sell(x, 0, 5, 0, 1, 27)), "the same below", 0, left - 37037, 999999);
    }

    @Says(promise = 0, words = "where shares move")
    static void aPledgeMovesNothing() {
        Edge half = TOO_SMALL_SOON.after(x -> Notary.sell(x, 0, 3, 0, 1, 2));
        half.answers("a pledge of what could not be sold", 4, x -> enterFull(x, PLEDGE, 3, 4, 1, 4));
        half.answers("it has the rank 0", 4, x -> enterFull(x, PLEDGE, 3, 4, 1, 4), x -> x.pledge(0, 0));
    }

    // ---- duties

    private static void dutyIs(int value, int kind, int above, int below, long due) {
        valued(value).answers("the duty of " + above + " by " + below + " of " + value + ", kind " + kind, due,
                x -> enterFull(x, kind, 0, 1, above, below), DeedProtocol::duties);
    }

    @Says(promise = 0, words = "divided by 20, for a SALE")
    static void dutyOfASale() {
        dutyIs(1, SALE, 1, 1, 0);
        dutyIs(19, SALE, 1, 1, 0);
        dutyIs(20, SALE, 1, 1, 1);
        dutyIs(39, SALE, 1, 1, 1);
        dutyIs(40, SALE, 1, 1, 2);
        dutyIs(1000000, SALE, 1, 1, 50000);
    }

    @Says(promise = 0, words = "by 10 for a GIFT")
    static void dutyOfAGift() {
        dutyIs(9, GIFT, 1, 1, 0);
        dutyIs(10, GIFT, 1, 1, 1);
        dutyIs(19, GIFT, 1, 1, 1);
        dutyIs(20, GIFT, 1, 1, 2);
        dutyIs(1000000, GIFT, 1, 1, 100000);
    }

    private static void familyDutyIs(int value, int parent, int child, long due) {
        valued(value).answers("the duty of " + value + " in the family", due, x -> x.child(parent, child),
                x -> enterFull(x, GIFT, 0, 1, 1, 1), DeedProtocol::duties);
    }

    @Says(promise = 0, words = "by 50 for a GIFT, if one of both is a child of the other one")
    static void dutyOfAGiftInTheFamily() {
        familyDutyIs(49, 0, 1, 0);
        familyDutyIs(50, 0, 1, 1);
        familyDutyIs(99, 0, 1, 1);
        familyDutyIs(100, 0, 1, 2);
        familyDutyIs(100, 0, 2, 10);
        familyDutyIs(100, 1, 2, 10);
        Edge toParent = EIGHT.after(x -> x.child(0, 1), x -> Notary.sell(x, 0, 1, 0, 1, 1));
        toParent.answers("by a child", 5 + 2, x -> enterFull(x, GIFT, 1, 0, 1, 1), DeedProtocol::duties);
        Edge further = EIGHT.after(x -> x.child(0, 1), x -> x.child(1, 2), x -> x.child(0, 3));
        further.answers("to a child's child", 10, x -> enterFull(x, GIFT, 0, 2, 1, 1), DeedProtocol::duties);
        further.answers("to a child's sibling", 5 + 10, x -> Notary.sell(x, 0, 1, 0, 1, 1),
                x -> enterFull(x, GIFT, 1, 3, 1, 1), DeedProtocol::duties);
        further.answers("a sale to a child", 5, x -> enterFull(x, SALE, 0, 1, 1, 1), DeedProtocol::duties);
        further.answers("a pledge to a child", 1, x -> enterFull(x, PLEDGE, 0, 1, 1, 1), DeedProtocol::duties);
    }

    @Says(promise = 0, words = "by 100 for a PLEDGE")
    static void dutyOfAPledge() {
        dutyIs(99, PLEDGE, 1, 1, 0);
        dutyIs(100, PLEDGE, 1, 1, 1);
        dutyIs(199, PLEDGE, 1, 1, 1);
        dutyIs(200, PLEDGE, 1, 1, 2);
        dutyIs(1000000, PLEDGE, 1, 1, 10000);
    }

    @Says(promise = 0, words = "The duty is, of the value times the share, rounded down")
    static void dutyOfAShare() {
        dutyIs(59, SALE, 1, 3, 0);
        dutyIs(60, SALE, 1, 3, 1);
        dutyIs(29, SALE, 2, 3, 0);
        dutyIs(30, SALE, 2, 3, 1);
        dutyIs(1999, GIFT, 1, 100, 1);
        dutyIs(2000, GIFT, 1, 100, 2);
        dutyIs(101, PLEDGE, 99, 100, 0);
        dutyIs(102, PLEDGE, 99, 100, 1);
        dutyIs(1000000, GIFT, 99, 100, 99000);
        dutyIs(999999, GIFT, 100, 100, 99999);
    }

    @Says(promise = 29, words = "Returns the duties so far.")
    static void dutiesSoFar() {
        EIGHT.answers("none at first", 0, DeedProtocol::duties);
        SOLD.answers("none of what is not entered", 0, DeedProtocol::duties);
        valued(39).answers("each rounded by itself", 0, x -> Notary.sell(x, 0, 1, 0, 1, 2),
                x -> Notary.sell(x, 0, 1, 0, 1, 2), DeedProtocol::duties);
        valued(40).answers("two of them", 2, x -> Notary.sell(x, 0, 1, 0, 1, 2),
                x -> Notary.sell(x, 0, 1, 0, 1, 2), DeedProtocol::duties);
        SOLD.answers("none of a death", 1, x -> x.enter(0), x -> x.die(0), DeedProtocol::duties);
        DeedProtocol x = Notary.withAdults(4);
        x.thing(0, 1000000);
        for (int i = 1; i <= 50; i++) {
            int[] sides = {(i - 1) % 2, i % 2};
            x.enter(Notary.full(x, GIFT, sides, 0, new int[] {1, 1}, 2, 3));
            Check.equal("duties of " + i + " gifts", x.duties(), 100000L * i);
        }
    }
}
