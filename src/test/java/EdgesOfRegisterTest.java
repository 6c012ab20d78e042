/** The edges of what the register tells: promises 23 to 28. */
public final class EdgesOfRegisterTest {
    private static final int NONE = DeedProtocol.NONE;
    private static final int SALE = DeedProtocol.SALE;
    private static final int GIFT = DeedProtocol.GIFT;
    private static final int PLEDGE = DeedProtocol.PLEDGE;
    private static final int DEATH = DeedProtocol.DEATH;
    private static final int MIN = Integer.MIN_VALUE;
    private static final int MAX = Integer.MAX_VALUE;
    private static final Class<?> INDEX = Check.INDEX;
    private static final Class<?> ARGUMENT = Check.ARGUMENT;

    /** Persons 0 to 4; things 0 and 1 of 0; nothing is entered. */
    private static final Edge NEW = new Edge(() -> {
        DeedProtocol x = Notary.withAdults(5);
        x.thing(0, 100);
        x.thing(0, 100);
        return x;
    });

    /** Five entries, of the things 1, 0, 0, 0 and 1, on the days 2, 2, 3, 5 and 5. */
    private static final Edge FIVE = NEW.after(x -> x.will(0, 1, 1, 2), x -> x.pass(2),
            x -> Notary.sell(x, 0, 1, 1, 1, 2), x -> x.enter(Notary.fullPledge(x, 0, 2, 0, 1, 1)), x -> x.pass(1),
            x -> x.enter(Notary.full(x, GIFT, new int[] {0, 1}, 0, new int[] {1, 3}, 2, 3)), x -> x.pass(2), x -> x.die(1));

    private static final Edge HUNDRED = new Edge(() -> Notary.withEntries(100));

    public static void main(String[] args) throws IllegalAccessException {
        Sentences.hold(EdgesOfRegisterTest.class);
    }

    // ---- entry

    @Says(promise = 23, words = "`what`: 0 its kind, 1 the deed, or, of a DEATH, the person, 2 the thing, 3 the day")
    static void whatOfAnEntry() {
        int[][] due = {{SALE, 1, 1, 2}, {PLEDGE, 2, 0, 2}, {GIFT, 3, 0, 3}, {DEATH, 1, 0, 5}, {DEATH, 1, 1, 5}};
        for (int i = 0; i < due.length; i++) {
            for (int k = 0; k < 4; k++) {
                int entry = i;
                int what = k;
                FIVE.answers("entry " + entry + ", what " + what, due[i][k], x -> x.entry(entry, what));
                FIVE.answers("the same, days later", due[i][k], x -> x.pass(10), x -> x.entry(entry, what));
            }
        }
    }

    @Says(promise = 23, words = "Throws `IndexOutOfBoundsException` if there is no such entry")
    static void noSuchEntry() {
        NEW.refusesEach("entry of none", INDEX, (x, entry) -> x.entry(entry, 0), NONE, 0, MIN, MAX);
        FIVE.answers("the first", SALE, x -> x.entry(0, 0));
        FIVE.answers("the last", DEATH, x -> x.entry(4, 0));
        FIVE.refusesEach("entry", INDEX, (x, entry) -> x.entry(entry, 0), NONE, 5, MIN, MAX);
        HUNDRED.answers("the hundredth", PLEDGE, x -> x.entry(99, 0));
        HUNDRED.refuses("the one behind it", INDEX, x -> x.entry(100, 0));
    }

    @Says(promise = 23, words = "Throws `IllegalArgumentException` if what is out of range")
    static void whatOutOfRange() {
        FIVE.refusesEach("what", ARGUMENT, (x, what) -> x.entry(0, what), -1, 4, MIN, MAX);
        FIVE.refusesEach("what of the last", ARGUMENT, (x, what) -> x.entry(4, what), -1, 4);
        FIVE.refusesEach("no entry, what", INDEX, (x, what) -> x.entry(5, what), -1, 4);
        NEW.refusesEach("no entry at all, what", INDEX, (x, what) -> x.entry(0, what), -1, 4);
    }

    // ---- entries

    @Says(promise = 24, words = "Returns how many entries there are.")
    static void howManyEntries() {
        NEW.answers("none", 0, DeedProtocol::entries);
        NEW.answers("one", 1, x -> Notary.sell(x, 0, 1, 0, 1, 2), DeedProtocol::entries);
        NEW.answers("none of what is closed alone", 0, x -> Notary.fullSale(x, 0, 1, 0, 1, 2), DeedProtocol::entries);
        NEW.answers("two of a death", 2, x -> x.die(0), DeedProtocol::entries);
        NEW.answers("none of a death of one who has nothing", 0, x -> x.die(1), DeedProtocol::entries);
        FIVE.answers("five", 5, DeedProtocol::entries);
        HUNDRED.answers("a hundred", 100, DeedProtocol::entries);
    }

    // ---- search

    @Says(promise = 25, words = "`from`: the first entry, 0 or more")
    static void searchFrom() {
        int[] ofThing0 = {3, 3, 2, 1, 0, 0};
        int[] ofThing1 = {2, 1, 1, 1, 1, 0};
        for (int i = 0; i < ofThing0.length; i++) {
            int from = i;
            FIVE.answers("thing 0 from " + from, ofThing0[i], x -> x.search(0, from, 9));
            FIVE.answers("thing 1 from " + from, ofThing1[i], x -> x.search(1, from, 9));
        }
        FIVE.answers("from far behind", 0, x -> x.search(0, MAX, MAX));
    }

    @Says(promise = 25, words = "`to`: the last one, from or more")
    static void searchTo() {
        int[] ofThing0 = {0, 1, 2, 3, 3, 3};
        int[] ofThing1 = {1, 1, 1, 1, 2, 2};
        for (int i = 0; i < ofThing0.length; i++) {
            int to = i;
            FIVE.answers("thing 0 to " + to, ofThing0[i], x -> x.search(0, 0, to));
            FIVE.answers("thing 1 to " + to, ofThing1[i], x -> x.search(1, 0, to));
            FIVE.answers("entry " + to + " alone", i == 0 || i > 3 ? 0 : 1, x -> x.search(0, to, to));
        }
        FIVE.answers("to the end of all numbers", 3, x -> x.search(0, 0, MAX));
        NEW.answers("of an empty register", 0, x -> x.search(0, 0, 0));
        NEW.answers("of all of an empty register", 0, x -> x.search(1, 0, MAX));
        HUNDRED.answers("the hundredth alone", 1, x -> x.search(3, 99, 99));
        HUNDRED.answers("a thing of a hundred", 13, x -> x.search(0, 0, 99));
    }

    @Says(promise = 25, words = "Throws `IllegalArgumentException` if from or to is out of range")
    static void searchOutOfRange() {
        FIVE.answers("from 0", 0, x -> x.search(0, 0, 0));
        FIVE.refusesEach("from", ARGUMENT, (x, from) -> x.search(0, from, 3), -1, 4, MIN, MAX);
        FIVE.refusesEach("both", ARGUMENT, (x, both) -> x.search(0, both, both), -1, MIN);
        FIVE.answers("to as from", 1, x -> x.search(0, 3, 3));
        FIVE.refusesEach("to, of 3", ARGUMENT, (x, to) -> x.search(0, 3, to), 2, 0, -1, MIN);
        FIVE.refuses("to under from, far behind", ARGUMENT, x -> x.search(0, MAX, MAX - 1));
        NEW.refuses("from -1 of an empty register", ARGUMENT, x -> x.search(0, -1, 0));
    }

    @Says(promise = 25, words = "Throws `IndexOutOfBoundsException` if there is no such thing")
    static void searchOfNoThing() {
        FIVE.answers("the last thing", 2, x -> x.search(1, 0, 4));
        FIVE.refusesEach("thing", INDEX, (x, thing) -> x.search(thing, 0, 4), NONE, 2, MIN, MAX);
        FIVE.refuses("no thing, from -1", INDEX, x -> x.search(2, -1, 4));
        FIVE.refuses("no thing, to under from", INDEX, x -> x.search(NONE, 3, 2));
        HUNDRED.answers("the eighth thing", 12, x -> x.search(7, 0, 99));
        HUNDRED.refuses("a ninth thing", INDEX, x -> x.search(8, 0, 99));
    }

    // ---- pledge

    /** Pledges 0, 1 and 2 of thing 0, entered as 1, 0 and 2; pledge 3 of thing 1. */
    private static final Edge PLEDGED = NEW.after(x -> Notary.fullPledge(x, 0, 1, 0, 1, 1),
            x -> Notary.fullPledge(x, 0, 2, 0, 1, 2), x -> Notary.fullPledge(x, 0, 3, 0, 1, 1),
            x -> Notary.fullPledge(x, 0, 3, 1, 1, 1), x -> x.enter(1), x -> x.enter(3), x -> x.enter(0), x -> x.enter(2));

    @Says(promise = 26, words = "Returns the deed; NONE if there are not so many.")
    static void pledgesByRank() {
        int[] due = {1, 0, 2, NONE, NONE};
        for (int i = 0; i < due.length; i++) {
            int rank = i;
            PLEDGED.answers("rank " + rank, due[i], x -> x.pledge(0, rank));
        }
        PLEDGED.answers("of the other thing", 3, x -> x.pledge(1, 0));
        PLEDGED.answers("of the other thing, rank 1", NONE, x -> x.pledge(1, 1));
        PLEDGED.answers("the greatest rank", NONE, x -> x.pledge(0, MAX));
        NEW.answers("where there is none", NONE, x -> x.pledge(0, 0));
        NEW.answers("where there is a sale", NONE, x -> Notary.sell(x, 0, 1, 0, 1, 2), x -> x.pledge(0, 0));
        NEW.answers("one that is not entered", NONE, x -> Notary.fullPledge(x, 0, 1, 0, 1, 2), x -> x.pledge(0, 0));
        PLEDGED.answers("when both are dead", 1, x -> x.die(0), x -> x.die(2), x -> x.pledge(0, 0));
    }

    @Says(promise = 26, words = "Throws `IndexOutOfBoundsException` if there is no such thing, or rank is below 0")
    static void noSuchPledge() {
        PLEDGED.refusesEach("rank", INDEX, (x, rank) -> x.pledge(0, rank), -1, -2, MIN);
        PLEDGED.refusesEach("thing", INDEX, (x, thing) -> x.pledge(thing, 0), NONE, 2, MIN, MAX);
        PLEDGED.refuses("neither", INDEX, x -> x.pledge(2, -1));
        NEW.refuses("rank -1, where there is none", INDEX, x -> x.pledge(0, -1));
    }

    @Says(promise = 26, words = "`rank`: from 0 on")
    static void sixtyPledges() {
        Edge sixty = NEW.after(x -> {
            for (int i = 0; i < 60; i++) {
                x.enter(Notary.fullPledge(x, 0, 1, 0, 1, 1));
            }
            return 0;
        });
        sixty.answers("the first", 0, x -> x.pledge(0, 0));
        sixty.answers("the sixtieth", 59, x -> x.pledge(0, 59));
        sixty.answers("the one behind", NONE, x -> x.pledge(0, 60));
    }

    // ---- share, shareAnew

    /** Asks both, whose answers are the same. */
    private static void shareIs(Edge edge, String what, int thing, int person, int above, int below) {
        edge.answers(what + ", above", above, x -> x.share(thing, person, false));
        edge.answers(what + ", below", below, x -> x.share(thing, person, true));
        edge.answers(what + ", above anew", above, x -> x.shareAnew(thing, person, false));
        edge.answers(what + ", below anew", below, x -> x.shareAnew(thing, person, true));
    }

    @Says(promise = 27, words = "Returns the share that one has of a thing, in lowest terms.")
    static void sharesInLowestTerms() {
        Edge sold = NEW.after(x -> Notary.sell(x, 0, 1, 0, 2, 4));
        shareIs(sold, "2 by 4", 0, 1, 1, 2);
        shareIs(sold, "what is left", 0, 0, 1, 2);
        Edge more = sold.after(x -> Notary.sell(x, 0, 1, 0, 1, 6));
        shareIs(more, "1 by 2 and 1 by 6", 0, 1, 2, 3);
        shareIs(more, "1 by 2 without 1 by 6", 0, 0, 1, 3);
        shareIs(more.after(x -> Notary.sell(x, 1, 0, 0, 2, 3)), "all is back", 0, 0, 1, 1);
        shareIs(NEW.after(x -> Notary.sell(x, 0, 1, 0, 100, 100)), "100 by 100", 0, 1, 1, 1);
        shareIs(NEW.after(x -> Notary.sell(x, 0, 1, 0, 99, 100)), "99 by 100", 0, 1, 99, 100);
    }

    @Says(promise = 27, words = "a share of nothing is 0 by 1")
    static void aShareOfNothing() {
        shareIs(NEW, "who has none yet", 0, 1, 0, 1);
        shareIs(NEW, "the crown", 0, NONE, 0, 1);
        shareIs(NEW.after(x -> Notary.sell(x, 0, 1, 0, 1, 1)), "who has none any more", 0, 0, 0, 1);
        shareIs(NEW.after(x -> Notary.sell(x, 0, 1, 0, 1, 3), x -> Notary.sell(x, 0, 1, 0, 2, 3)), "by and by", 0, 0, 0, 1);
        shareIs(NEW.after(x -> x.die(0)), "the dead", 1, 0, 0, 1);
    }

    @Says(promise = 27, words = "`person`: a person, or NONE for the crown")
    static void theCrownsShare() {
        Edge dead = NEW.after(x -> Notary.sell(x, 0, 4, 1, 1, 4), x -> x.die(4));
        shareIs(dead, "a quarter", 1, NONE, 1, 4);
        shareIs(dead, "of the other thing", 0, NONE, 0, 1);
        shareIs(NEW.after(x -> x.die(0)), "all", 0, NONE, 1, 1);
    }

    @Says(promise = 27, words = "Throws `IndexOutOfBoundsException` if there is no such thing or person (NONE aside)")
    static void noSuchShare() {
        NEW.answers("the last thing, the last person", 1, x -> x.share(1, 4, true));
        for (boolean isBelow : new boolean[] {false, true}) {
            NEW.refusesEach("thing", INDEX, (x, thing) -> x.share(thing, 0, isBelow), NONE, 2, MIN, MAX);
            NEW.refusesEach("person", INDEX, (x, person) -> x.share(0, person, isBelow), -2, 5, MIN, MAX);
            NEW.refuses("no thing of the crown", INDEX, x -> x.share(2, NONE, isBelow));
        }
        HUNDRED.answers("the eighth thing, the twelfth person", 1, x -> x.share(7, 11, true));
        HUNDRED.refuses("a ninth thing", INDEX, x -> x.share(8, 0, true));
        HUNDRED.refuses("a thirteenth person", INDEX, x -> x.share(0, 12, true));
    }

    @Says(promise = 28, words = "Throws `IndexOutOfBoundsException` if there is no such thing or person (NONE aside)")
    static void noSuchShareAnew() {
        NEW.answers("the last thing, the last person", 1, x -> x.shareAnew(1, 4, true));
        for (boolean isBelow : new boolean[] {false, true}) {
            NEW.refusesEach("thing", INDEX, (x, thing) -> x.shareAnew(thing, 0, isBelow), NONE, 2, MIN, MAX);
            NEW.refusesEach("person", INDEX, (x, person) -> x.shareAnew(0, person, isBelow), -2, 5, MIN, MAX);
            NEW.refuses("no thing of the crown", INDEX, x -> x.shareAnew(2, NONE, isBelow));
        }
        HUNDRED.answers("the eighth thing, the twelfth person", 1, x -> x.shareAnew(7, 11, true));
        HUNDRED.refuses("a ninth thing", INDEX, x -> x.shareAnew(8, 0, true));
        HUNDRED.refuses("a thirteenth person", INDEX, x -> x.shareAnew(0, 12, true));
    }

    @Says(promise = 28, words = "Returns the same, found by going through all entries from the first owner on, as each was when it was made.")
    static void asEachWasWhenItWasMade() {
        Edge heirs = NEW.after(x -> x.child(0, 1), x -> x.child(0, 2), x -> Notary.closedWill(x, 0, 3, 1, 2), x -> x.die(0));
        shareIs(heirs, "a child", 0, 1, 1, 4);
        shareIs(heirs, "the will's taker", 0, 3, 1, 2);
        Edge later = heirs.after(x -> x.die(1), x -> x.die(3));
        shareIs(later, "the child who lives, as it was", 0, 2, 1, 4);
        shareIs(later, "the crown has of the others", 0, NONE, 3, 4);
        shareIs(later.after(x -> x.child(2, 4), x -> x.die(2)), "a child told later", 0, 4, 1, 4);
        shareIs(HUNDRED, "behind a hundred entries", 0, 10, 1, 2);
        shareIs(HUNDRED, "behind a hundred entries", 0, 11, 1, 2);
        shareIs(HUNDRED, "behind a hundred entries", 7, 10, 1, 1);
        shareIs(HUNDRED, "the first owner", 7, 0, 0, 1);
        shareIs(NEW.after(x -> x.thing(4, 1)), "the first owner, no entry", 2, 4, 1, 1);
    }
}
