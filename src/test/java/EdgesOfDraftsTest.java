/** The edges of drafting: the terms on the kinds and numbers of deeds, and promises 7 to 9. */
public final class EdgesOfDraftsTest {
    private static final int NONE = DeedProtocol.NONE;
    private static final int SALE = DeedProtocol.SALE;
    private static final int GIFT = DeedProtocol.GIFT;
    private static final int PLEDGE = DeedProtocol.PLEDGE;
    private static final int READ = DeedProtocol.READ;
    private static final int MIN = Integer.MIN_VALUE;
    private static final int MAX = Integer.MAX_VALUE;
    private static final Class<?> INDEX = Check.INDEX;
    private static final Class<?> ARGUMENT = Check.ARGUMENT;
    private static final Class<?> STATE = Check.STATE;

    /** Persons 0 to 4, of whom 3 and 4 are dead; things 0 and 1. */
    private static final Edge SOME = new Edge(() -> {
        DeedProtocol x = Notary.withAdults(5);
        x.thing(0, 100);
        x.thing(1, 100);
        x.die(3);
        x.die(4);
        return x;
    });

    public static void main(String[] args) throws IllegalAccessException {
        Sentences.hold(EdgesOfDraftsTest.class);
    }

    /** So many deeds of all kinds, some of them closed. */
    private static Edge deeds(int count) {
        return SOME.after(x -> {
            for (int i = 0; i < count; i++) {
                int drafted = i % 3 == 0 ? x.draft(i % 9 / 3, 0, 1, 0, 1, 2)
                        : i % 3 == 1 ? x.power(0, 1, 0, 5, true) : x.will(0, 1, 1, 2);
                Check.equal("deed " + i, drafted, i);
                if (i % 4 == 0) {
                    x.close(i);
                }
            }
            return count;
        });
    }

    // ---- the terms

    @Says(promise = 0, words = "Deeds are numbered from 0 as they are drafted, at most 60.")
    static void sixtyDeeds() {
        SOME.answers("the first, a sale", 0, x -> x.draft(SALE, 0, 1, 0, 1, 2));
        SOME.answers("the first, a power", 0, x -> x.power(0, 1, 0, 1, true));
        SOME.answers("the first, a will", 0, x -> x.will(0, 1, 1, 2));
        deeds(1).answers("the second", 1, x -> x.will(0, 1, 1, 2));
        deeds(59).answers("the sixtieth, a sale", 59, x -> x.draft(SALE, 0, 1, 0, 1, 2));
        deeds(59).answers("the sixtieth, a power", 59, x -> x.power(0, 1, 0, 1, true));
        deeds(59).answers("the sixtieth, a will", 59, x -> x.will(0, 1, 1, 2));
        deeds(60).answers("the sixtieth is there", DeedProtocol.WILL, x -> x.deed(59, 1));
        deeds(60).refuses("a sixty-first is not", INDEX, x -> x.deed(60, 1));
    }

    @Says(promise = 0, words = "A deed has a giver and a taker, two persons")
    static void twoPersons() {
        SOME.refuses("a sale", ARGUMENT, x -> x.draft(SALE, 1, 1, 0, 1, 2));
        SOME.refuses("a power", ARGUMENT, x -> x.power(1, 1, 0, 1, true));
        SOME.refuses("a will", ARGUMENT, x -> x.will(1, 1, 1, 2));
    }

    @Says(promise = 0, words = "SALE, GIFT, PLEDGE: of a thing, a share of the whole of it.")
    static void aShareOfTheWhole() {
        Edge half = SOME.after(x -> Notary.sell(x, 0, 1, 0, 1, 2), x -> Notary.fullSale(x, 0, 2, 0, 1, 2));
        half.answers("a half of the whole, of one who has a half", 1, x -> x.enter(1));
        half.answers("the half that is sold", 2, x -> x.enter(1), x -> x.share(0, 2, true));
        half.answers("nothing is left", 0, x -> x.enter(1), x -> x.share(0, 0, false));
    }

    // ---- draft

    @Says(promise = 7, words = "`kind`: SALE to PLEDGE")
    static void kindsOfDrafts() {
        for (int kind : new int[] {SALE, GIFT, PLEDGE}) {
            SOME.answers("kind " + kind, 0, x -> x.draft(kind, 0, 1, 0, 1, 2));
            SOME.answers("it is of this kind", kind, x -> x.draft(kind, 0, 1, 0, 1, 2), x -> x.deed(0, 1));
        }
    }

    @Says(promise = 7, words = "`above`: 1 to 100")
    static void aboveFrom1To100() {
        for (int above : new int[] {1, 2, 99, 100}) {
            SOME.answers("above " + above, 0, x -> x.draft(GIFT, 0, 1, 0, above, 100));
        }
    }

    @Says(promise = 7, words = "`below`: above to 100: the share is above by below")
    static void belowFromAboveTo100() {
        int[][] parts = {{1, 1}, {1, 2}, {57, 57}, {57, 58}, {99, 99}, {99, 100}, {100, 100}, {1, 99}, {1, 100}};
        for (int[] part : parts) {
            Edge drafted = SOME.after(x -> Notary.fullSale(x, 0, 1, 0, part[0], part[1]));
            int common = part[0] == part[1] ? part[0] : 1;
            String what = part[0] + " by " + part[1];
            drafted.answers(what + ", above", part[0] / common, x -> x.enter(0), x -> x.share(0, 1, false));
            drafted.answers(what + ", below", part[1] / common, x -> x.enter(0), x -> x.share(0, 1, true));
        }
    }

    @Says(promise = 7, words = "Throws `IndexOutOfBoundsException` if there is no such person or thing")
    static void draftOfNobody() {
        SOME.answers("the last ones who live, the last thing", 0, x -> x.draft(SALE, 2, 0, 1, 1, 2));
        SOME.refusesEach("giver", INDEX, (x, giver) -> x.draft(SALE, giver, 1, 0, 1, 2), NONE, 5, MIN, MAX);
        SOME.refusesEach("taker", INDEX, (x, taker) -> x.draft(GIFT, 0, taker, 0, 1, 2), NONE, 5, MIN, MAX);
        SOME.refusesEach("thing", INDEX, (x, thing) -> x.draft(PLEDGE, 0, 1, thing, 1, 2), NONE, 2, MIN, MAX);
    }

    @Says(promise = 7, words = "Throws `IllegalArgumentException` if kind, above or below is out of range, or giver and taker are the same")
    static void draftOutOfRange() {
        SOME.refusesEach("kind", ARGUMENT, (x, kind) -> x.draft(kind, 0, 1, 0, 1, 2), -1, 3, 4, 5, MIN, MAX);
        SOME.refusesEach("above", ARGUMENT, (x, above) -> x.draft(SALE, 0, 1, 0, above, 100), 0, 101, -1, MIN, MAX);
        SOME.refusesEach("both", ARGUMENT, (x, both) -> x.draft(SALE, 0, 1, 0, both, both), 0, 101, -1, MIN, MAX);
        SOME.refusesEach("below, of 1", ARGUMENT, (x, below) -> x.draft(GIFT, 0, 1, 0, 1, below), 0, 101, -1, MIN, MAX);
        SOME.refusesEach("below, of 57", ARGUMENT, (x, below) -> x.draft(PLEDGE, 0, 1, 0, 57, below), 56, 0, 101);
        SOME.refusesEach("below, of 100", ARGUMENT, (x, below) -> x.draft(SALE, 0, 1, 0, 100, below), 99, 101);
        SOME.refusesEach("giver and taker", ARGUMENT, (x, both) -> x.draft(SALE, both, both, 0, 1, 2), 0, 2);
    }

    @Says(promise = 7, words = "Throws `IllegalStateException` if there are 60, or one of both is dead")
    static void draftRefused() {
        for (int kind : new int[] {SALE, GIFT, PLEDGE}) {
            deeds(60).refuses("the sixty-first, of kind " + kind, STATE, x -> x.draft(kind, 0, 1, 0, 1, 2));
        }
        SOME.refuses("a dead giver", STATE, x -> x.draft(SALE, 3, 1, 0, 1, 2));
        SOME.refuses("a dead taker", STATE, x -> x.draft(SALE, 0, 3, 0, 1, 2));
        SOME.refuses("two dead ones", STATE, x -> x.draft(SALE, 4, 3, 0, 1, 2));
    }

    @Says(promise = 7, words = "Throws `IllegalArgumentException` if kind, above or below is out of range, or giver and taker are the same")
    static void draftsFirstLineDecides() {
        SOME.refuses("nobody gives, no kind", INDEX, x -> x.draft(3, 5, 1, 0, 1, 2));
        SOME.refuses("nobody takes, above 0", INDEX, x -> x.draft(SALE, 0, 5, 0, 0, 2));
        SOME.refuses("no thing, below 101", INDEX, x -> x.draft(SALE, 0, 1, 2, 1, 101));
        SOME.refuses("nobody twice", INDEX, x -> x.draft(SALE, 5, 5, 0, 1, 2));
        SOME.refuses("no thing, the same", INDEX, x -> x.draft(SALE, 1, 1, 2, 1, 2));
        SOME.refuses("no thing, a dead one", INDEX, x -> x.draft(SALE, 3, 1, 2, 1, 2));
        deeds(60).refuses("nobody's sixty-first", INDEX, x -> x.draft(SALE, 0, NONE, 0, 1, 2));
        SOME.refuses("a dead one, no kind", ARGUMENT, x -> x.draft(3, 3, 1, 0, 1, 2));
        SOME.refuses("a dead one, above 0", ARGUMENT, x -> x.draft(SALE, 0, 3, 0, 0, 2));
        SOME.refuses("a dead one, below 101", ARGUMENT, x -> x.draft(SALE, 0, 3, 0, 1, 101));
        SOME.refuses("a dead one twice", ARGUMENT, x -> x.draft(SALE, 3, 3, 0, 1, 2));
        deeds(60).refuses("the sixty-first, no kind", ARGUMENT, x -> x.draft(-1, 0, 1, 0, 1, 2));
        deeds(60).refuses("the sixty-first, above 101", ARGUMENT, x -> x.draft(SALE, 0, 1, 0, 101, 101));
        deeds(60).refuses("the sixty-first, the same", ARGUMENT, x -> x.draft(SALE, 0, 0, 0, 1, 2));
    }

    // ---- power

    @Says(promise = 8, words = "`thing`: a thing, or NONE for all things and none")
    static void powerOfAThingOrAll() {
        for (int thing : new int[] {NONE, 0, 1}) {
            SOME.answers("thing " + thing, 0, x -> x.power(0, 1, thing, 1, true));
            SOME.answers("it is a power", DeedProtocol.POWER, x -> x.power(0, 1, thing, 1, true), x -> x.deed(0, 1));
        }
    }

    /** A FULL power of so many days, drafted on the day 7 and closed three days later. */
    private static Edge fullPower(int days) {
        return SOME.after(x -> x.pass(7), x -> x.power(0, 1, NONE, days, false), x -> x.pass(3),
                x -> x.sign(0, 0, true, NONE), x -> x.add(0, READ), x -> x.close(0));
    }

    @Says(promise = 8, words = "`days`: 1 to 1000: the last day is so many days behind that of now")
    static void daysFrom1To1000() {
        for (int days : new int[] {4, 5, 999, 1000}) {
            fullPower(days).answers(days + " days, on the last one", 1, x -> x.pass(days - 3), x -> Edge.bit(x.isGood(0)));
            fullPower(days).answers(days + " days, behind it", 0, x -> x.pass(days - 2), x -> Edge.bit(x.isGood(0)));
        }
        fullPower(3).answers("3 days, on the last one", 1, x -> Edge.bit(x.isGood(0)));
        fullPower(2).answers("2 days, behind the last one", 0, x -> Edge.bit(x.isGood(0)));
        Edge shortest = SOME.after(x -> Notary.fullPower(x, 0, 1, NONE, 1, true));
        shortest.answers("1 day, on the day of now", 1, x -> Edge.bit(x.isGood(0)));
        shortest.answers("1 day, on the next", 1, x -> x.pass(1), x -> Edge.bit(x.isGood(0)));
        shortest.answers("1 day, on the one behind", 0, x -> x.pass(2), x -> Edge.bit(x.isGood(0)));
    }

    @Says(promise = 8, words = "Throws `IndexOutOfBoundsException` if there is no such person or thing (NONE aside)")
    static void powerOfNobody() {
        SOME.answers("the last one who lives", 0, x -> x.power(2, 0, 1, 1, true));
        SOME.refusesEach("giver", INDEX, (x, giver) -> x.power(giver, 1, NONE, 1, true), NONE, 5, MIN, MAX);
        SOME.refusesEach("taker", INDEX, (x, taker) -> x.power(0, taker, 0, 1, true), NONE, 5, MIN, MAX);
        SOME.refusesEach("thing", INDEX, (x, thing) -> x.power(0, 1, thing, 1, true), -2, 2, MIN, MAX);
    }

    @Says(promise = 8, words = "Throws `IllegalArgumentException` if days is out of range, or giver and taker are the same")
    static void powerOutOfRange() {
        SOME.refusesEach("days", ARGUMENT, (x, days) -> x.power(0, 1, NONE, days, true), 0, 1001, -1, MIN, MAX);
        SOME.refusesEach("giver and taker", ARGUMENT, (x, both) -> x.power(both, both, NONE, 1, true), 0, 2);
    }

    @Says(promise = 8, words = "Throws `IllegalStateException` if there are 60, or one of both is dead")
    static void powerRefused() {
        deeds(60).refuses("the sixty-first", STATE, x -> x.power(0, 1, NONE, 1, true));
        SOME.refuses("a dead giver", STATE, x -> x.power(3, 1, NONE, 1, true));
        SOME.refuses("a dead taker", STATE, x -> x.power(0, 3, 0, 1000, true));
        SOME.refuses("two dead ones", STATE, x -> x.power(4, 3, 0, 1000, true));
    }

    @Says(promise = 8, words = "Throws `IllegalArgumentException` if days is out of range, or giver and taker are the same")
    static void powersFirstLineDecides() {
        SOME.refuses("nobody gives, days 0", INDEX, x -> x.power(5, 1, NONE, 0, true));
        SOME.refuses("nobody takes, days 1001", INDEX, x -> x.power(0, 5, NONE, 1001, true));
        SOME.refuses("no thing, days 0", INDEX, x -> x.power(0, 1, 2, 0, true));
        SOME.refuses("no thing, the same", INDEX, x -> x.power(0, 0, 2, 1, true));
        SOME.refuses("no thing, a dead one", INDEX, x -> x.power(0, 3, -2, 1, true));
        deeds(60).refuses("of no thing, the sixty-first", INDEX, x -> x.power(0, 1, 2, 1, true));
        SOME.refuses("a dead one, days 0", ARGUMENT, x -> x.power(3, 1, NONE, 0, true));
        SOME.refuses("a dead one, days 1001", ARGUMENT, x -> x.power(0, 3, NONE, 1001, true));
        SOME.refuses("a dead one twice", ARGUMENT, x -> x.power(3, 3, NONE, 1, true));
        deeds(60).refuses("the sixty-first, days 0", ARGUMENT, x -> x.power(0, 1, NONE, 0, true));
        deeds(60).refuses("the sixty-first, the same", ARGUMENT, x -> x.power(1, 1, NONE, 1, true));
    }

    @Says(promise = 8, words = "`goesOn`: whether it may be handed on")
    static void goesOnOrNot() {
        for (boolean goesOn : new boolean[] {false, true}) {
            Edge power = SOME.after(x -> Notary.fullPower(x, 0, 1, NONE, 1, goesOn),
                    x -> Notary.signedPower(x, new int[] {0, 2}, NONE, 1, true, 1, 0));
            power.answers("what is handed on, as may be " + goesOn, Edge.bit(goesOn), x -> Edge.bit(x.isGood(1)));
        }
    }

    // ---- will

    @Says(promise = 9, words = "`above`: 1 to 100")
    static void aboveOfAWill() {
        for (int above : new int[] {1, 2, 99, 100}) {
            SOME.answers("above " + above, 0, x -> x.will(0, 1, above, 100));
        }
    }

    @Says(promise = 9, words = "`below`: above to 100")
    static void belowOfAWill() {
        int[][] parts = {{1, 1}, {1, 2}, {57, 57}, {57, 58}, {99, 99}, {99, 100}, {100, 100}, {1, 99}, {1, 100}};
        for (int[] part : parts) {
            Edge closed = SOME.after(x -> Notary.closedWill(x, 0, 2, part[0], part[1]), x -> x.die(0));
            int common = part[0] == part[1] ? part[0] : 1;
            String what = part[0] + " by " + part[1];
            closed.answers(what + ", above", part[0] / common, x -> x.share(0, 2, false));
            closed.answers(what + ", below", part[1] / common, x -> x.share(0, 2, true));
        }
    }

    @Says(promise = 9, words = "Throws `IndexOutOfBoundsException` if there is no such person, of either")
    static void willOfNobody() {
        SOME.answers("the last one who lives", 0, x -> x.will(2, 0, 1, 2));
        SOME.refusesEach("giver", INDEX, (x, giver) -> x.will(giver, 1, 1, 2), NONE, 5, MIN, MAX);
        SOME.refusesEach("taker", INDEX, (x, taker) -> x.will(0, taker, 1, 2), NONE, 5, MIN, MAX);
    }

    @Says(promise = 9, words = "Throws `IllegalArgumentException` if above or below is out of range, or giver and taker are the same")
    static void willOutOfRange() {
        SOME.refusesEach("above", ARGUMENT, (x, above) -> x.will(0, 1, above, 100), 0, 101, -1, MIN, MAX);
        SOME.refusesEach("both", ARGUMENT, (x, both) -> x.will(0, 1, both, both), 0, 101, -1, MIN, MAX);
        SOME.refusesEach("below, of 1", ARGUMENT, (x, below) -> x.will(0, 1, 1, below), 0, 101, -1, MIN, MAX);
        SOME.refusesEach("below, of 57", ARGUMENT, (x, below) -> x.will(0, 1, 57, below), 56, 0, 101);
        SOME.refusesEach("below, of 100", ARGUMENT, (x, below) -> x.will(0, 1, 100, below), 99, 101);
        SOME.refusesEach("giver and taker", ARGUMENT, (x, both) -> x.will(both, both, 1, 2), 0, 2);
    }

    @Says(promise = 9, words = "Throws `IllegalStateException` if there are 60, or one of both is dead")
    static void willRefused() {
        deeds(60).refuses("the sixty-first", STATE, x -> x.will(0, 1, 1, 2));
        SOME.refuses("a dead giver", STATE, x -> x.will(3, 1, 1, 1));
        SOME.refuses("a dead taker", STATE, x -> x.will(0, 3, 100, 100));
        SOME.refuses("two dead ones", STATE, x -> x.will(4, 3, 1, 2));
    }

    @Says(promise = 9, words = "Throws `IllegalArgumentException` if above or below is out of range, or giver and taker are the same")
    static void willsFirstLineDecides() {
        SOME.refuses("nobody gives, above 0", INDEX, x -> x.will(5, 1, 0, 2));
        SOME.refuses("nobody takes, below 101", INDEX, x -> x.will(0, NONE, 1, 101));
        SOME.refuses("nobody twice", INDEX, x -> x.will(5, 5, 1, 2));
        SOME.refuses("nobody, and a dead one", INDEX, x -> x.will(3, 5, 1, 2));
        deeds(60).refuses("nobody's sixty-first", INDEX, x -> x.will(NONE, 1, 1, 2));
        SOME.refuses("a dead one, above 0", ARGUMENT, x -> x.will(3, 1, 0, 2));
        SOME.refuses("a dead one, below 101", ARGUMENT, x -> x.will(0, 3, 1, 101));
        SOME.refuses("a dead one, below under above", ARGUMENT, x -> x.will(0, 3, 2, 1));
        SOME.refuses("a dead one twice", ARGUMENT, x -> x.will(3, 3, 1, 2));
        deeds(60).refuses("the sixty-first, above 0", ARGUMENT, x -> x.will(0, 1, 0, 2));
        deeds(60).refuses("the sixty-first, the same", ARGUMENT, x -> x.will(1, 1, 1, 2));
    }

    @Says(promise = 9, words = "Returns its number.")
    static void draftedAsTold() {
        Edge drafted = deeds(3);
        for (int i = 1; i < 3; i++) {
            int deed = i;
            drafted.answers("state of " + deed, DeedProtocol.DRAFTED, x -> x.deed(deed, 0));
            drafted.answers("parts of " + deed, 0, x -> x.deed(deed, 2));
            drafted.answers("number of " + deed, 0, x -> x.deed(deed, 3));
            drafted.answers("day of " + deed, NONE, x -> x.deed(deed, 4));
            drafted.answers("entry of " + deed, NONE, x -> x.deed(deed, 5));
            drafted.answers("paper of " + deed, NONE, x -> x.proof(deed));
        }
        SOME.after(x -> Check.outcome(() -> x.will(0, 0, 1, 2)), x -> Check.outcome(() -> x.power(0, 1, 9, 1, true)))
                .answers("the number behind refusals is the one before", 0, x -> x.draft(SALE, 0, 1, 0, 1, 2));
    }
}
