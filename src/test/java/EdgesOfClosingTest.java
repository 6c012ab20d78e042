/** The edges of closing: what each kind needs, numbers and labels; and promises 13 to 15. */
public final class EdgesOfClosingTest {
    private static final int NONE = DeedProtocol.NONE;
    private static final int SALE = DeedProtocol.SALE;
    private static final int GIFT = DeedProtocol.GIFT;
    private static final int PLEDGE = DeedProtocol.PLEDGE;
    private static final int POWER = DeedProtocol.POWER;
    private static final int WILL = DeedProtocol.WILL;
    private static final int GIVEN = DeedProtocol.GIVEN;
    private static final int TAKEN = DeedProtocol.TAKEN;
    private static final int READ = DeedProtocol.READ;
    private static final int WITNESSED = DeedProtocol.WITNESSED;
    private static final int TOLD = DeedProtocol.TOLD;
    private static final int FULL = DeedProtocol.FULL;
    private static final int LESSER = DeedProtocol.LESSER;
    private static final int VOID = DeedProtocol.VOID;
    private static final int MIN = Integer.MIN_VALUE;
    private static final int MAX = Integer.MAX_VALUE;
    private static final Class<?> INDEX = Check.INDEX;
    private static final Class<?> ARGUMENT = Check.ARGUMENT;
    private static final Class<?> STATE = Check.STATE;
    private static final int[] KINDS = {SALE, GIFT, PLEDGE, POWER, WILL};
    private static final int[] OF_A_THING = {SALE, GIFT, PLEDGE};

    public static void main(String[] args) throws IllegalAccessException {
        Sentences.hold(EdgesOfClosingTest.class);
    }

    /** Deed 0 of a kind, by 0 to 1, with such parts; persons 2 and 3 are witnesses, if there are two. */
    private static Edge drafted(int kind, int parts, boolean isGiverForeign, boolean isTakerForeign) {
        return new Edge(() -> {
            DeedProtocol x = new DeedProtocol();
            x.person(30, isGiverForeign);
            x.person(30, isTakerForeign);
            x.person(30, true);
            x.person(30, false);
            x.thing(0, 100);
            draft(x, kind);
            bring(x, parts);
            Check.equal("the parts that were brought", x.deed(0, 2), parts);
            return x;
        });
    }

    private static Edge drafted(int kind, int parts) {
        return drafted(kind, parts, false, false);
    }

    private static void draft(DeedProtocol x, int kind) {
        if (kind == POWER) {
            x.power(0, 1, 0, 100, true);
        } else if (kind == WILL) {
            x.will(0, 1, 1, 2);
        } else {
            x.draft(kind, 0, 1, 0, 1, 2);
        }
    }

    private static void bring(DeedProtocol x, int parts) {
        if ((parts & GIVEN) != 0) {
            x.sign(0, 0, true, NONE);
        }
        if ((parts & TAKEN) != 0) {
            x.sign(0, 1, false, NONE);
        }
        for (int part : new int[] {READ, TOLD}) {
            if ((parts & part) != 0) {
                x.add(0, part);
            }
        }
        for (int witness = 2; (parts & WITNESSED) != 0 && witness < 4; witness++) {
            x.witness(0, witness);
        }
    }

    /** All parts that a kind can have. */
    private static int all(int kind) {
        return GIVEN | READ | WITNESSED | TOLD | (kind == WILL ? 0 : TAKEN);
    }

    // ---- the terms on what is needed

    @Says(promise = 0, words = "GIVEN and READ are needed of all")
    static void givenAndReadOfAll() {
        for (int kind : KINDS) {
            drafted(kind, all(kind)).answers("all, of " + kind, FULL, x -> x.close(0));
            drafted(kind, all(kind) & ~READ).answers("without READ, of " + kind, LESSER, x -> x.close(0));
            drafted(kind, all(kind) & ~GIVEN).answers("without GIVEN, of " + kind, VOID, x -> x.close(0));
            drafted(kind, 0).answers("without all, of " + kind, VOID, x -> x.close(0));
        }
    }

    @Says(promise = 0, words = "TAKEN of a SALE, GIFT and PLEDGE")
    static void takenOfThree() {
        for (int kind : OF_A_THING) {
            drafted(kind, all(kind) & ~TAKEN).answers("without TAKEN, of " + kind, VOID, x -> x.close(0));
        }
        drafted(POWER, GIVEN | READ).answers("a POWER without it", FULL, x -> x.close(0));
        drafted(POWER, GIVEN | READ | TAKEN).answers("a POWER with it", FULL, x -> x.close(0));
        drafted(WILL, GIVEN | READ | WITNESSED).answers("a WILL without it", FULL, x -> x.close(0));
    }

    @Says(promise = 0, words = "WITNESSED of a GIFT and a WILL")
    static void witnessedOfTwo() {
        for (int kind : KINDS) {
            int due = kind == GIFT || kind == WILL ? LESSER : FULL;
            drafted(kind, all(kind) & ~WITNESSED).answers("without it, of " + kind, due, x -> x.close(0));
        }
        drafted(GIFT, 7).answers("a GIFT with one witness", LESSER, x -> x.witness(0, 2), x -> x.close(0));
        drafted(GIFT, 7).answers("a GIFT with two", FULL, x -> x.witness(0, 2), x -> x.witness(0, 3), x -> x.close(0));
        drafted(WILL, 5).answers("a WILL with one witness", LESSER, x -> x.witness(0, 2), x -> x.close(0));
        drafted(WILL, 5).answers("a WILL with two", FULL, x -> x.witness(0, 2), x -> x.witness(0, 3), x -> x.close(0));
    }

    @Says(promise = 0, words = "TOLD if the giver is foreign, or, of a SALE, GIFT and PLEDGE, the taker")
    static void toldOfForeigners() {
        for (int kind : KINDS) {
            int untold = all(kind) & ~TOLD;
            int ofTaker = kind <= PLEDGE ? LESSER : FULL;
            drafted(kind, untold, false, false).answers("neither is, of " + kind, FULL, x -> x.close(0));
            drafted(kind, untold, true, false).answers("the giver is, of " + kind, LESSER, x -> x.close(0));
            drafted(kind, untold, false, true).answers("the taker is, of " + kind, ofTaker, x -> x.close(0));
            drafted(kind, untold, true, true).answers("both are, of " + kind, LESSER, x -> x.close(0));
            drafted(kind, all(kind), true, true).answers("both are, and TOLD, of " + kind, FULL, x -> x.close(0));
            drafted(kind, all(kind) & ~READ, true, true).answers("TOLD, but not READ, of " + kind, LESSER, x -> x.close(0));
            drafted(kind, TOLD, true, true).answers("TOLD alone, of " + kind, VOID, x -> x.close(0));
        }
    }

    @Says(promise = 0, words = "otherwise LESSER, if it is a SALE, GIFT or PLEDGE with GIVEN and TAKEN")
    static void lesserOfThree() {
        for (int kind : OF_A_THING) {
            drafted(kind, GIVEN | TAKEN).answers("GIVEN and TAKEN, of " + kind, LESSER, x -> x.close(0));
            drafted(kind, GIVEN).answers("GIVEN alone, of " + kind, VOID, x -> x.close(0));
            drafted(kind, TAKEN).answers("TAKEN alone, of " + kind, VOID, x -> x.close(0));
            drafted(kind, GIVEN | READ).answers("GIVEN and READ, of " + kind, VOID, x -> x.close(0));
        }
    }

    @Says(promise = 0, words = "a promise, which can never be entered")
    static void promisesAreNeverEntered() {
        for (int kind : OF_A_THING) {
            drafted(kind, GIVEN | TAKEN).after(x -> x.close(0)).refuses("of " + kind, STATE, x -> x.enter(0));
        }
        drafted(SALE, GIVEN | TAKEN).after(x -> x.close(0), x -> x.copy(0)).refuses("with a copy", STATE, x -> x.enter(0));
    }

    @Says(promise = 0, words = "a POWER with GIVEN")
    static void lesserOfAPower() {
        drafted(POWER, GIVEN).answers("GIVEN", LESSER, x -> x.close(0));
        drafted(POWER, GIVEN | TAKEN).answers("GIVEN and TAKEN", LESSER, x -> x.close(0));
        drafted(POWER, TAKEN).answers("TAKEN", VOID, x -> x.close(0));
        drafted(POWER, READ).answers("READ", VOID, x -> x.close(0));
    }

    @Says(promise = 0, words = "or a WILL with GIVEN")
    static void lesserOfAWill() {
        drafted(WILL, GIVEN).answers("GIVEN", LESSER, x -> x.close(0));
        drafted(WILL, GIVEN | READ).answers("GIVEN and READ", LESSER, x -> x.close(0));
        drafted(WILL, GIVEN | WITNESSED).answers("GIVEN and WITNESSED", LESSER, x -> x.close(0));
        drafted(WILL, READ | WITNESSED).answers("READ and WITNESSED", VOID, x -> x.close(0));
    }

    @Says(promise = 0, words = "Closed deeds have numbers in the protocol, from 1 on.")
    static void numbersFrom1() {
        Edge two = drafted(SALE, 0).after(x -> x.will(0, 1, 1, 2), x -> x.power(0, 1, NONE, 5, true));
        two.answers("none has one", 0, x -> x.deed(0, 3));
        two.answers("the first closed, a VOID one", 1, x -> x.close(2), x -> x.deed(2, 3));
        two.answers("the second closed", 2, x -> x.close(2), x -> x.close(0), x -> x.deed(0, 3));
        two.answers("the first stays", 1, x -> x.close(2), x -> x.close(0), x -> x.deed(2, 3));
        two.answers("the one between has none", 0, x -> x.close(2), x -> x.close(0), x -> x.deed(1, 3));
        two.answers("a refused one takes none", 2, x -> x.close(2), x -> Check.outcome(() -> x.close(2)),
                x -> x.close(0), x -> x.deed(0, 3));
        sixtyClosed().answers("the sixtieth", 60, x -> x.deed(59, 3));
    }

    private static Edge sixtyClosed() {
        return new Edge(() -> {
            DeedProtocol x = Notary.withAdults(2);
            for (int i = 0; i < 60; i++) {
                x.close(x.will(0, 1, 1, 2));
            }
            return x;
        });
    }

    // ---- close

    @Says(promise = 13, words = "Returns FULL to VOID.")
    static void closeAnswersTheState() {
        int[] parts = {READ | GIVEN | TAKEN, GIVEN | TAKEN, GIVEN};
        int[] due = {FULL, LESSER, VOID};
        for (int i = 0; i < due.length; i++) {
            Edge sale = drafted(SALE, parts[i]);
            sale.answers("closing", due[i], x -> x.close(0));
            sale.answers("the state then", due[i], x -> x.close(0), x -> x.deed(0, 0));
            sale.answers("the parts then", parts[i], x -> x.close(0), x -> x.deed(0, 2));
        }
    }

    @Says(promise = 13, words = "Throws `IndexOutOfBoundsException` if there is no such deed")
    static void closeNoDeed() {
        drafted(SALE, 0).answers("the last one", VOID, x -> x.will(0, 1, 1, 2), x -> x.close(1));
        drafted(SALE, 0).refusesEach("deed", INDEX, (x, deed) -> x.close(deed), NONE, 1, MIN, MAX);
        sixtyClosed().refusesEach("deed of sixty", INDEX, (x, deed) -> x.close(deed), NONE, 60);
    }

    @Says(promise = 13, words = "Throws `IllegalStateException` if it is closed, or giver or taker is dead")
    static void closeRefused() {
        for (int kind : KINDS) {
            Edge deed = drafted(kind, all(kind));
            deed.after(x -> x.close(0)).refuses("closed, of " + kind, STATE, x -> x.close(0));
            deed.after(x -> x.die(0)).refuses("a dead giver, of " + kind, STATE, x -> x.close(0));
            deed.after(x -> x.die(1)).refuses("a dead taker, of " + kind, STATE, x -> x.close(0));
            deed.after(x -> x.die(0), x -> x.die(1)).refuses("both dead, of " + kind, STATE, x -> x.close(0));
            deed.answers("dead witnesses, of " + kind, FULL, x -> x.die(2), x -> x.die(3), x -> x.close(0));
        }
        drafted(SALE, 0).after(x -> x.close(0)).refuses("a closed VOID one", STATE, x -> x.close(0));
    }

    // ---- deed

    @Says(promise = 14, words = "`what`: 0 DRAFTED to VOID, 1 its kind, 2 its parts, 3 its number in the protocol, 0 without one, 4 the day on which it was closed, NONE, 5 its entry, NONE")
    static void whatOfADeed() {
        Edge sale = drafted(SALE, 7).after(x -> x.pass(9));
        int[] before = {DeedProtocol.DRAFTED, SALE, 7, 0, NONE, NONE};
        int[] closed = {FULL, SALE, 7, 1, 9, NONE};
        int[] entered = {FULL, SALE, 7, 1, 9, 0};
        for (int i = 0; i < before.length; i++) {
            int what = i;
            sale.answers("drafted, what " + what, before[i], x -> x.deed(0, what));
            sale.answers("closed, what " + what, closed[i], x -> x.close(0), x -> x.pass(1), x -> x.deed(0, what));
            sale.answers("entered, what " + what, entered[i], x -> x.close(0), x -> x.pass(1), x -> x.enter(0),
                    x -> x.deed(0, what));
        }
        for (int kind : KINDS) {
            drafted(kind, 0).answers("the kind", kind, x -> x.deed(0, 1));
        }
    }

    @Says(promise = 14, words = "Throws `IllegalArgumentException` if what is out of range")
    static void whatOutOfRange() {
        drafted(SALE, 7).refusesEach("what", ARGUMENT, (x, what) -> x.deed(0, what), -1, 6, MIN, MAX);
    }

    @Says(promise = 14, words = "Throws `IndexOutOfBoundsException` if there is no such deed")
    static void noDeedToTellOf() {
        drafted(SALE, 7).refusesEach("deed", INDEX, (x, deed) -> x.deed(deed, 0), NONE, 1, MIN, MAX);
        sixtyClosed().answers("the last of sixty", VOID, x -> x.deed(59, 0));
        sixtyClosed().refuses("the one behind sixty", INDEX, x -> x.deed(60, 0));
        drafted(SALE, 7).refusesEach("no deed, what", INDEX, (x, what) -> x.deed(1, what), -1, 6);
    }

    // ---- label

    private static void labelIs(Edge edge, int deed, String due, Edge.Act... acts) {
        Edge then = edge.after(acts);
        for (int i = 0; i < due.length(); i++) {
            int place = i;
            then.answers("the label " + due + " at " + place, due.charAt(place), x -> x.label(deed, place));
        }
        int end = due.length();
        for (int place : new int[] {end, end + 1, end + 100, MAX}) {
            then.answers("the label " + due + " at " + place, '.', x -> x.label(deed, place));
        }
    }

    @Says(promise = 15, words = "Returns a sign of the label of a deed: S, G, P, A (of a POWER) or W, then its number in the protocol as it is written, 0 if it has none, then a comma and f, l or v as it is FULL, LESSER or VOID; nothing behind the number, if it is drafted.")
    static void labelsOfKinds() {
        String letters = "SGPAW";
        for (int kind : KINDS) {
            char letter = letters.charAt(kind);
            labelIs(drafted(kind, all(kind)), 0, letter + "0");
            labelIs(drafted(kind, all(kind)), 0, letter + "1,f", x -> x.close(0));
            labelIs(drafted(kind, all(kind) & ~READ), 0, letter + "1,l", x -> x.close(0));
            labelIs(drafted(kind, 0), 0, letter + "1,v", x -> x.close(0));
        }
    }

    @Says(promise = 15, words = "then its number in the protocol as it is written")
    static void labelsWithTwoDigits() {
        labelIs(sixtyClosed(), 8, "W9,v");
        labelIs(sixtyClosed(), 9, "W10,v");
        labelIs(sixtyClosed(), 59, "W60,v");
    }

    @Says(promise = 15, words = "Returns the sign; '.' if there are not so many.")
    static void behindTheLabel() {
        drafted(SALE, 0).answers("the last sign", '0', x -> x.label(0, 1));
        drafted(SALE, 0).answers("the one behind it", '.', x -> x.label(0, 2));
        drafted(SALE, 7).answers("the last sign, closed", 'f', x -> x.close(0), x -> x.label(0, 3));
        drafted(SALE, 7).answers("the one behind it, closed", '.', x -> x.close(0), x -> x.label(0, 4));
    }

    @Says(promise = 15, words = "Throws `IndexOutOfBoundsException` if there is no such deed, or place is below 0")
    static void noLabel() {
        Edge sale = drafted(SALE, 0);
        sale.answers("place 0", 'S', x -> x.label(0, 0));
        sale.refusesEach("place", INDEX, (x, place) -> x.label(0, place), -1, -2, MIN);
        sale.refusesEach("deed", INDEX, (x, deed) -> x.label(deed, 0), NONE, 1, MIN, MAX);
        sale.refuses("neither", INDEX, x -> x.label(1, -1));
        sale.refuses("no deed, far behind", INDEX, x -> x.label(1, MAX));
    }
}
