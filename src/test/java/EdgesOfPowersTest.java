/** The edges of what makes a power good, and promises 16 and 17. */
public final class EdgesOfPowersTest {
    private static final int NONE = DeedProtocol.NONE;
    private static final int READ = DeedProtocol.READ;
    private static final int MIN = Integer.MIN_VALUE;
    private static final int MAX = Integer.MAX_VALUE;
    private static final Class<?> INDEX = Check.INDEX;
    private static final Class<?> STATE = Check.STATE;

    private static final Edge SIX = new Edge(() -> {
        DeedProtocol x = Notary.withAdults(6);
        x.thing(0, 100);
        return x;
    });

    /** Deed 0, a FULL power of 0 for 1, of 10 days, that may be handed on. */
    private static final Edge FULL = SIX.after(x -> Notary.fullPower(x, 0, 1, NONE, 10, true));

    public static void main(String[] args) throws IllegalAccessException {
        Sentences.hold(EdgesOfPowersTest.class);
    }

    private static void isGood(Edge edge, String what, boolean due, int power, Edge.Act... acts) {
        edge.after(acts).answers(what, due ? 1 : 0, x -> Edge.bit(x.isGood(power)));
    }

    /** Deed 0, a power of so many days with GIVEN alone, closed so many days after it was drafted. */
    private static Edge lesser(int days, int until) {
        return SIX.after(x -> x.pass(3), x -> x.power(0, 1, NONE, days, true), x -> x.sign(0, 0, true, NONE),
                x -> until == 0 ? 0 : x.pass(until), x -> x.close(0));
    }

    // ---- the terms

    @Says(promise = 0, words = "A power is good, if it is FULL or LESSER")
    static void goodIfFullOrLesser() {
        Edge drafted = SIX.after(x -> x.power(0, 1, NONE, 10, true));
        isGood(drafted, "drafted", false, 0);
        isGood(drafted, "VOID", false, 0, x -> x.add(0, READ), x -> x.close(0));
        isGood(drafted, "LESSER", true, 0, x -> x.sign(0, 0, true, NONE), x -> x.close(0));
        isGood(drafted, "drafted, with all", false, 0, x -> x.sign(0, 0, true, NONE), x -> x.add(0, READ));
        isGood(drafted, "FULL", true, 0, x -> x.sign(0, 0, true, NONE), x -> x.add(0, READ), x -> x.close(0));
    }

    @Says(promise = 0, words = "its days are not over")
    static void daysNotOver() {
        isGood(FULL, "on the day of closing", true, 0);
        isGood(FULL, "on the last day", true, 0, x -> x.pass(10));
        isGood(FULL, "on the day behind", false, 0, x -> x.pass(11));
        isGood(FULL, "long behind", false, 0, x -> x.pass(10000));
    }

    @Says(promise = 0, words = "which is good for 30 days at most, that of closing not counted")
    static void goodFor30DaysAtMost() {
        isGood(lesser(100, 0), "on the day of closing", true, 0);
        isGood(lesser(100, 0), "on the 30th", true, 0, x -> x.pass(30));
        isGood(lesser(100, 0), "on the 31st", false, 0, x -> x.pass(31));
        isGood(lesser(100, 5), "on the 30th behind closing", true, 0, x -> x.pass(30));
        isGood(lesser(100, 5), "on the 31st behind closing", false, 0, x -> x.pass(31));
        isGood(lesser(29, 0), "of 29 days, on the last", true, 0, x -> x.pass(29));
        isGood(lesser(29, 0), "of 29 days, on the 30th", false, 0, x -> x.pass(30));
        isGood(lesser(30, 0), "of 30 days, on the 30th", true, 0, x -> x.pass(30));
        isGood(lesser(31, 0), "of 31 days, on the 31st", false, 0, x -> x.pass(31));
        isGood(lesser(34, 5), "of 34 days, 5 ahead of closing, on the last", true, 0, x -> x.pass(29));
        isGood(lesser(34, 5), "of 34 days, 5 ahead of closing, behind it", false, 0, x -> x.pass(30));
        isGood(FULL.after(x -> Notary.fullPower(x, 0, 1, NONE, 31, true)), "a FULL one on the 31st", true, 1,
                x -> x.pass(31));
    }

    @Says(promise = 0, words = "it was not revoked, or the taker does not know of that yet")
    static void revokedAndKnown() {
        isGood(FULL, "revoked, not known", true, 0, x -> Edge.bit(x.revoke(0, false)));
        isGood(FULL, "revoked, known", false, 0, x -> Edge.bit(x.revoke(0, true)));
        Edge unknown = FULL.after(x -> Edge.bit(x.revoke(0, false)));
        isGood(unknown, "again, not known", true, 0, x -> Edge.bit(x.revoke(0, false)));
        isGood(unknown, "again, known", false, 0, x -> Edge.bit(x.revoke(0, true)));
        isGood(FULL, "known, and not told again", false, 0, x -> Edge.bit(x.revoke(0, true)),
                x -> Edge.bit(x.revoke(0, false)));
        Edge two = FULL.after(x -> Notary.fullPower(x, 0, 1, NONE, 10, true));
        isGood(two, "another one of both", true, 0, x -> Edge.bit(x.revoke(1, true)));
    }

    @Says(promise = 0, words = "its giver lives")
    static void theGiverLives() {
        isGood(FULL, "dead", false, 0, x -> x.die(0));
        isGood(FULL, "not able", true, 0, x -> x.guard(0, 2));
        isGood(FULL, "another one dead", true, 0, x -> x.die(2));
    }

    @Says(promise = 0, words = "if it was signed for its giver by a power, that is good, too, and may be handed on")
    static void powersInChains() {
        Edge chain = FULL.after(x -> Notary.signedPower(x, new int[] {0, 2}, NONE, 50, true, 1, 0),
                x -> Notary.signedPower(x, new int[] {0, 3}, NONE, 50, false, 2, 1));
        for (int power = 1; power <= 2; power++) {
            isGood(chain, "good", true, power);
            isGood(chain, "on the first one's last day", true, power, x -> x.pass(10));
            isGood(chain, "behind the first one's days", false, power, x -> x.pass(11));
            isGood(chain, "the first one revoked, not known", true, power, x -> Edge.bit(x.revoke(0, false)));
            isGood(chain, "the first one revoked, known", false, power, x -> Edge.bit(x.revoke(0, true)));
            isGood(chain, "the giver of all dead", false, power, x -> x.die(0));
        }
        isGood(chain, "the third, the second revoked", false, 2, x -> Edge.bit(x.revoke(1, true)));
        isGood(chain, "the first, the second revoked", true, 0, x -> Edge.bit(x.revoke(1, true)));
        isGood(chain, "the second, the third revoked", true, 1, x -> Edge.bit(x.revoke(2, true)));
        isGood(chain, "the third, the second one's taker dead", true, 2, x -> x.die(2));
        Edge further = chain.after(x -> Notary.signedPower(x, new int[] {0, 4}, NONE, 50, true, 3, 2));
        isGood(further, "a fourth, of the third that stays", false, 3);
    }

    @Says(promise = 0, words = "and may be handed on (which does not hinder signing)")
    static void mayBeHandedOn() {
        for (boolean goesOn : new boolean[] {false, true}) {
            Edge power = SIX.after(x -> Notary.fullPower(x, 0, 1, NONE, 10, goesOn));
            Edge next = power.after(x -> Notary.signedPower(x, new int[] {0, 2}, NONE, 10, true, 1, 0));
            isGood(next, "handed on, as may be " + goesOn, goesOn, 1);
            isGood(next, "the first, as may be " + goesOn, true, 0);
            isGood(power, "signed by the giver itself", true, 1,
                    x -> Notary.signedPower(x, new int[] {0, 2}, NONE, 10, true, 0, 0));
            isGood(power.after(x -> x.guard(0, 1)), "signed by the guardian", true, 1,
                    x -> Notary.signedPower(x, new int[] {0, 2}, NONE, 10, true, 1, 0));
        }
        Edge takers = SIX.after(x -> Notary.fullPower(x, 1, 2, NONE, 10, false), x -> x.power(0, 1, NONE, 10, true),
                x -> x.sign(1, 2, false, 0), x -> x.sign(1, 0, true, NONE), x -> x.close(1));
        isGood(takers, "TAKEN by a power that stays", true, 1);
        isGood(takers, "TAKEN by a power that is over", true, 1, x -> x.pass(5), x -> Edge.bit(x.revoke(0, true)));
    }

    @Says(promise = 0, words = "Deeds are numbered from 0 as they are drafted, at most 60.")
    static void sixtyInAChain() {
        Edge chain = new Edge(() -> {
            DeedProtocol x = Notary.withAdults(12);
            int last = Notary.fullPower(x, 0, 1, NONE, 10, true);
            for (int i = 1; i < 60; i++) {
                int[] sides = {0, 1 + i % 11};
                last = Notary.signedPower(x, sides, NONE, 100, true, 1 + (i - 1) % 11, last);
            }
            return x;
        });
        isGood(chain, "the sixtieth", true, 59);
        isGood(chain, "the sixtieth, on the first one's last day", true, 59, x -> x.pass(10));
        isGood(chain, "the sixtieth, behind it", false, 59, x -> x.pass(11));
        isGood(chain, "the sixtieth, the middle one revoked", false, 59, x -> Edge.bit(x.revoke(30, true)));
        isGood(chain, "the 30th, the middle one revoked", true, 29, x -> Edge.bit(x.revoke(30, true)));
    }

    // ---- revoke

    /** Deeds of every kind, closed, but for the last one: sale, gift, pledge, will, a VOID power, a drafted one. */
    private static final Edge KINDS = SIX.after(x -> Notary.fullSale(x, 0, 1, 0, 1, 2),
            x -> Notary.full(x, DeedProtocol.GIFT, new int[] {0, 1}, 0, new int[] {1, 2}, 2, 3),
            x -> Notary.fullPledge(x, 0, 1, 0, 1, 2), x -> Notary.closedWill(x, 0, 1, 1, 2, 2, 3),
            x -> x.close(x.power(0, 1, NONE, 10, true)), x -> x.power(0, 1, NONE, 10, true));

    @Says(promise = 16, words = "Throws `IndexOutOfBoundsException` if there is no such deed")
    static void revokeNoDeed() {
        FULL.answers("the first", 0, x -> Edge.bit(x.revoke(0, true)));
        FULL.refusesEach("power", INDEX, (x, power) -> Edge.bit(x.revoke(power, true)), NONE, 1, MIN, MAX);
        KINDS.refuses("the one behind the last", INDEX, x -> Edge.bit(x.revoke(6, false)));
    }

    @Says(promise = 16, words = "Throws `IllegalStateException` if it is no closed POWER")
    static void revokeRefused() {
        for (boolean isTold : new boolean[] {false, true}) {
            KINDS.refusesEach("deed", STATE, (x, deed) -> Edge.bit(x.revoke(deed, isTold)), 0, 1, 2, 3, 5);
            KINDS.answers("a VOID power", 0, x -> Edge.bit(x.revoke(4, isTold)));
        }
        Edge signed = KINDS.after(x -> x.sign(5, 0, true, NONE), x -> x.add(5, READ));
        signed.refuses("a power with all parts that is not closed", STATE, x -> Edge.bit(x.revoke(5, true)));
        signed.answers("the same when it is", 0, x -> x.close(5), x -> Edge.bit(x.revoke(5, true)));
        KINDS.after(x -> x.draft(0, 0, 1, 0, 1, 2)).refuses("a drafted sale", STATE, x -> Edge.bit(x.revoke(6, true)));
    }

    @Says(promise = 16, words = "`isTold`: whether the taker knows it")
    static void toldOrNot() {
        for (boolean isTold : new boolean[] {false, true}) {
            isGood(FULL, "told " + isTold, !isTold, 0, x -> Edge.bit(x.revoke(0, isTold)));
        }
        isGood(KINDS, "a VOID one, not told", false, 4, x -> Edge.bit(x.revoke(4, false)));
    }

    @Says(promise = 16, words = "Returns whether it was revoked already.")
    static void revokedAlready() {
        for (boolean isTold : new boolean[] {false, true}) {
            FULL.answers("the first time", 0, x -> Edge.bit(x.revoke(0, isTold)));
            FULL.answers("the second time", 1, x -> Edge.bit(x.revoke(0, isTold)), x -> Edge.bit(x.revoke(0, isTold)));
            FULL.answers("the second time, otherwise", 1, x -> Edge.bit(x.revoke(0, isTold)),
                    x -> Edge.bit(x.revoke(0, !isTold)));
        }
        FULL.answers("when its days are over", 0, x -> x.pass(11), x -> Edge.bit(x.revoke(0, true)));
        FULL.answers("when its giver is dead", 0, x -> x.die(0), x -> Edge.bit(x.revoke(0, true)));
        KINDS.answers("a VOID one, again", 1, x -> Edge.bit(x.revoke(4, false)), x -> Edge.bit(x.revoke(4, true)));
    }

    // ---- isGood

    @Says(promise = 17, words = "Throws `IndexOutOfBoundsException` if there is no such deed")
    static void isGoodOfNoDeed() {
        FULL.answers("the first", 1, x -> Edge.bit(x.isGood(0)));
        FULL.refusesEach("power", INDEX, (x, power) -> Edge.bit(x.isGood(power)), NONE, 1, MIN, MAX);
        SIX.refuses("the first, where there is none", INDEX, x -> Edge.bit(x.isGood(0)));
    }

    @Says(promise = 17, words = "Returns whether it is; false for what is no POWER.")
    static void isGoodOfWhatIsNoPower() {
        for (int i = 0; i < 6; i++) {
            isGood(KINDS, "deed " + i, false, i);
        }
        isGood(KINDS, "beside a power", true, 6, x -> Notary.fullPower(x, 0, 1, 0, 1, false));
    }
}
