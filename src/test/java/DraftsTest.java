/** Promises 7 to 9: draft, power, will. */
public final class DraftsTest {
    private static final int NONE = DeedProtocol.NONE;
    private static final int SALE = DeedProtocol.SALE;
    private static final int MIN = Integer.MIN_VALUE;
    private static final int MAX = Integer.MAX_VALUE;

    public static void main(String[] args) {
        numbers();
        draftsAreRefused();
        powersAreRefused();
        willsAreRefused();
        theDeadAreRefused();
        sixtyAtMost();
        Check.end();
    }

    /** Persons 0 to 3, of whom 3 is dead; thing 0. */
    private static DeedProtocol someone() {
        DeedProtocol x = Notary.withAdults(4);
        x.thing(0, 100);
        x.die(3);
        return x;
    }

    private static void numbers() {
        DeedProtocol x = someone();
        Check.equal("a sale", x.draft(SALE, 0, 1, 0, 1, 1), 0);
        Check.equal("a gift", x.draft(DeedProtocol.GIFT, 1, 0, 0, 1, 100), 1);
        Check.equal("a pledge", x.draft(DeedProtocol.PLEDGE, 2, 0, 0, 100, 100), 2);
        Check.equal("a power of a thing", x.power(0, 1, 0, 1, true), 3);
        Check.equal("a power of all", x.power(0, 1, NONE, 1000, false), 4);
        Check.equal("a will", x.will(0, 1, 1, 100), 5);
        for (int i = 0; i < 6; i++) {
            Check.equal("state of " + i, x.deed(i, 0), DeedProtocol.DRAFTED);
            Check.equal("kind of " + i, x.deed(i, 1), new int[] {0, 1, 2, 3, 3, 4}[i]);
            Check.equal("parts of " + i, x.deed(i, 2), 0);
            Check.equal("number of " + i, x.deed(i, 3), 0);
            Check.equal("day of " + i, x.deed(i, 4), NONE);
            Check.equal("entry of " + i, x.deed(i, 5), NONE);
        }
        Check.equal("drafts make no entries", x.entries(), 0);
    }

    private static void draftsAreRefused() {
        DeedProtocol x = someone();
        Check.refuses("no such giver", Check.INDEX, () -> x.draft(SALE, 4, 1, 0, 1, 2));
        Check.refuses("no such taker", Check.INDEX, () -> x.draft(SALE, 0, 4, 0, 1, 2));
        Check.refuses("the crown gives", Check.INDEX, () -> x.draft(SALE, NONE, 1, 0, 1, 2));
        Check.refuses("the crown takes", Check.INDEX, () -> x.draft(SALE, 0, NONE, 0, 1, 2));
        Check.refuses("no such thing", Check.INDEX, () -> x.draft(SALE, 0, 1, 1, 1, 2));
        Check.refuses("NONE as the thing", Check.INDEX, () -> x.draft(SALE, 0, 1, NONE, 1, 2));
        Check.refuses("no thing and no kind", Check.INDEX, () -> x.draft(9, 0, 1, NONE, 1, 2));
        Check.refuses("kind -1", Check.ARGUMENT, () -> x.draft(-1, 0, 1, 0, 1, 2));
        Check.refuses("kind POWER", Check.ARGUMENT, () -> x.draft(DeedProtocol.POWER, 0, 1, 0, 1, 2));
        Check.refuses("kind WILL", Check.ARGUMENT, () -> x.draft(DeedProtocol.WILL, 0, 1, 0, 1, 2));
        Check.refuses("kind MAX", Check.ARGUMENT, () -> x.draft(MAX, 0, 1, 0, 1, 2));
        Check.refuses("above 0", Check.ARGUMENT, () -> x.draft(SALE, 0, 1, 0, 0, 2));
        Check.refuses("above MIN", Check.ARGUMENT, () -> x.draft(SALE, 0, 1, 0, MIN, 2));
        Check.refuses("above 101", Check.ARGUMENT, () -> x.draft(SALE, 0, 1, 0, 101, 101));
        Check.refuses("below under above", Check.ARGUMENT, () -> x.draft(SALE, 0, 1, 0, 3, 2));
        Check.refuses("below 101", Check.ARGUMENT, () -> x.draft(SALE, 0, 1, 0, 1, 101));
        Check.refuses("giver is taker", Check.ARGUMENT, () -> x.draft(SALE, 1, 1, 0, 1, 2));
        Check.refuses("the same dead one", Check.ARGUMENT, () -> x.draft(SALE, 3, 3, 0, 1, 2));
        Check.equal("nothing was drafted", x.draft(SALE, 0, 1, 0, 1, 2), 0);
    }

    private static void powersAreRefused() {
        DeedProtocol x = someone();
        Check.refuses("no such giver", Check.INDEX, () -> x.power(4, 1, 0, 1, true));
        Check.refuses("no such taker", Check.INDEX, () -> x.power(0, -1, 0, 1, true));
        Check.refuses("no such thing", Check.INDEX, () -> x.power(0, 1, 1, 1, true));
        Check.refuses("a thing below NONE", Check.INDEX, () -> x.power(0, 1, -2, 1, true));
        Check.refuses("no thing and no days", Check.INDEX, () -> x.power(0, 1, 1, 0, true));
        Check.refuses("days 0", Check.ARGUMENT, () -> x.power(0, 1, 0, 0, true));
        Check.refuses("days 1001", Check.ARGUMENT, () -> x.power(0, 1, 0, 1001, true));
        Check.refuses("giver is taker", Check.ARGUMENT, () -> x.power(1, 1, NONE, 1, true));
        Check.refuses("a dead giver and no days", Check.ARGUMENT, () -> x.power(3, 1, NONE, -1, true));
        Check.equal("nothing was drafted", x.power(0, 1, 0, 1, false), 0);
    }

    private static void willsAreRefused() {
        DeedProtocol x = someone();
        Check.refuses("no such giver", Check.INDEX, () -> x.will(-1, 1, 1, 2));
        Check.refuses("no such taker", Check.INDEX, () -> x.will(0, 4, 0, 2));
        Check.refuses("above 0", Check.ARGUMENT, () -> x.will(0, 1, 0, 2));
        Check.refuses("below under above", Check.ARGUMENT, () -> x.will(0, 1, 2, 1));
        Check.refuses("below 101", Check.ARGUMENT, () -> x.will(0, 1, 100, 101));
        Check.refuses("above 101", Check.ARGUMENT, () -> x.will(0, 1, 101, 101));
        Check.refuses("giver is taker", Check.ARGUMENT, () -> x.will(0, 0, 1, 2));
        Check.refuses("a dead taker and no share", Check.ARGUMENT, () -> x.will(0, 3, 1, 0));
        Check.equal("nothing was drafted", x.will(0, 1, 1, 2), 0);
    }

    private static void theDeadAreRefused() {
        DeedProtocol x = someone();
        Check.refuses("a dead seller", Check.STATE, () -> x.draft(SALE, 3, 1, 0, 1, 2));
        Check.refuses("a dead buyer", Check.STATE, () -> x.draft(SALE, 1, 3, 0, 1, 2));
        Check.refuses("a power of a dead one", Check.STATE, () -> x.power(3, 1, 0, 1, true));
        Check.refuses("a power for a dead one", Check.STATE, () -> x.power(1, 3, 0, 1, true));
        Check.refuses("a will of a dead one", Check.STATE, () -> x.will(3, 1, 1, 2));
        Check.refuses("a will for a dead one", Check.STATE, () -> x.will(1, 3, 1, 2));
        Check.equal("nothing was drafted", x.will(0, 1, 1, 2), 0);
    }

    private static void sixtyAtMost() {
        DeedProtocol x = someone();
        for (int i = 0; i < 60; i++) {
            int drafted = i % 3 == 0 ? x.draft(SALE, 0, 1, 0, 1, 2)
                    : i % 3 == 1 ? x.power(0, 1, 0, 5, true) : x.will(0, 1, 1, 2);
            Check.equal("deed " + i, drafted, i);
        }
        Check.refuses("the 61st, a sale", Check.STATE, () -> x.draft(SALE, 0, 1, 0, 1, 2));
        Check.refuses("the 61st, a power", Check.STATE, () -> x.power(0, 1, 0, 5, true));
        Check.refuses("the 61st, a will", Check.STATE, () -> x.will(0, 1, 1, 2));
        Check.refuses("the 61st, a wrong one", Check.ARGUMENT, () -> x.will(0, 1, 2, 1));
        Check.equal("the 60th is there", x.deed(59, 1), DeedProtocol.WILL);
        Check.refuses("the 61st is not there", Check.INDEX, () -> x.deed(60, 1));
    }
}
