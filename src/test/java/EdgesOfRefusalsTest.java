/** "a call that throws changes nothing", for each line of each throws clause, where there is much to change. */
public final class EdgesOfRefusalsTest {
    private static final int NONE = DeedProtocol.NONE;
    private static final int SALE = DeedProtocol.SALE;
    private static final int GIFT = DeedProtocol.GIFT;
    private static final int READ = DeedProtocol.READ;
    private static final int TOLD = DeedProtocol.TOLD;
    private static final Class<?> INDEX = Check.INDEX;
    private static final Class<?> ARGUMENT = Check.ARGUMENT;
    private static final Class<?> STATE = Check.STATE;

    // What stands in the world, by its numbers.
    private static final int FULL_POWER = 0;
    private static final int POWER_BY_IT = 1;
    private static final int REVOKED_POWER = 2;
    private static final int DRAFTED_POWER = 3;
    private static final int ENTERED_SALE = 4;
    private static final int FULL_GIFT = 5;
    private static final int LESSER_SALE = 6;
    private static final int VOID_SALE = 7;
    private static final int DRAFTED_SALE = 8;
    private static final int FULL_WILL = 9;
    private static final int DRAFTED_WILL = 10;
    private static final int TOO_GREAT_SALE = 11;
    private static final int OF_THE_DEAD = 12;
    private static final int WARD = 5;
    private static final int YOUNG = 6;
    private static final int DEAD = 7;

    private static final Edge WORLD = new Edge(EdgesOfRefusalsTest::world);

    public static void main(String[] args) throws IllegalAccessException {
        Sentences.hold(EdgesOfRefusalsTest.class);
    }

    /** Persons 0 to 8, of whom 2 and 3 are children of 0, 3 of 1, too; things 0 to 2. */
    private static DeedProtocol world() {
        DeedProtocol x = Notary.withAdults(6);
        x.person(9, true);
        x.person(70, false);
        x.person(30, true);
        x.child(0, 2);
        x.child(0, 3);
        x.child(1, 3);
        x.guard(WARD, 4);
        x.thing(0, 1000);
        x.thing(DEAD, 500);
        x.thing(0, 77);
        x.pass(3);
        Notary.fullPower(x, 0, 4, NONE, 20, true);
        Notary.signedPower(x, new int[] {0, 1}, 0, 15, true, 4, FULL_POWER);
        Notary.fullPower(x, 1, 2, 0, 100, false);
        x.revoke(REVOKED_POWER, false);
        x.power(0, 1, NONE, 8, true);
        x.sign(DRAFTED_POWER, 4, true, FULL_POWER);
        Notary.fullSale(x, 0, 1, 0, 1, 3);
        Notary.full(x, GIFT, new int[] {0, 2}, 0, new int[] {1, 6}, 4, 1);
        x.copy(FULL_GIFT);
        lesserAndVoid(x);
        Notary.closedWill(x, 0, 1, 3, 4, 4, DEAD);
        x.will(0, 2, 1, 2);
        Notary.fullSale(x, 1, 0, 0, 1, 2);
        x.draft(SALE, DEAD, 0, 1, 1, 1);
        x.enter(ENTERED_SALE);
        x.pass(2);
        x.die(DEAD);
        return x;
    }

    private static void lesserAndVoid(DeedProtocol x) {
        x.draft(SALE, 0, 1, 2, 1, 2);
        x.sign(LESSER_SALE, 0, true, NONE);
        x.sign(LESSER_SALE, 1, false, NONE);
        x.close(LESSER_SALE);
        x.close(x.draft(SALE, 0, 1, 2, 1, 2));
        x.draft(SALE, 0, 1, 2, 1, 2);
        x.sign(DRAFTED_SALE, 0, true, NONE);
        x.witness(DRAFTED_SALE, 4);
        x.add(DRAFTED_SALE, READ);
    }

    @Says(promise = 0, words = "a call that throws changes nothing")
    static void theWorldIsAsTold() {
        int[] states = {1, 1, 1, 0, 1, 1, 2, 3, 0, 1, 0, 1, 0};
        for (int i = 0; i < states.length; i++) {
            int deed = i;
            WORLD.answers("the state of " + deed, states[deed], x -> x.deed(deed, 0));
        }
        WORLD.answers("one more has no number yet", Check.REFUSED_INDEX, x -> x.deed(13, 0));
        WORLD.answers("entries", 2, DeedProtocol::entries);
        WORLD.answers("duties", 16, DeedProtocol::duties);
        WORLD.answers("the day", 6, x -> x.pass(1));
    }

    @Says(promise = 0, words = "a call that throws changes nothing")
    static void personsAndThings() {
        WORLD.refusesEach("person of the age", ARGUMENT, (x, age) -> x.person(age, true), -1, 100);
        WORLD.refuses("child of nobody", INDEX, x -> x.child(0, 9));
        WORLD.refuses("child told earlier", ARGUMENT, x -> x.child(4, 2));
        WORLD.refuses("child of two", STATE, x -> x.child(2, 3));
        WORLD.refuses("child already", STATE, x -> x.child(0, 2));
        WORLD.refuses("child that is dead", STATE, x -> x.child(0, DEAD));
        WORLD.refuses("child of a dead one", STATE, x -> x.child(DEAD, 8));
        WORLD.refuses("guardian that is nobody", INDEX, x -> x.guard(WARD, 9));
        WORLD.refuses("guardian of itself", ARGUMENT, x -> x.guard(WARD, WARD));
        WORLD.refuses("guardian that is dead", STATE, x -> x.guard(WARD, DEAD));
        WORLD.refuses("guardian of a dead one", STATE, x -> x.guard(DEAD, WARD));
        WORLD.refuses("thing of nobody", INDEX, x -> x.thing(9, 1));
        WORLD.refuses("thing of no value", ARGUMENT, x -> x.thing(0, 0));
        WORLD.refuses("thing of a dead one", STATE, x -> x.thing(DEAD, 1));
        WORLD.refusesEach("isAble", INDEX, (x, person) -> Edge.bit(x.isAble(person)), -1, 9);
        WORLD.refusesEach("pass", ARGUMENT, (x, days) -> x.pass(days), 0, 10001);
    }

    @Says(promise = 0, words = "a call that throws changes nothing")
    static void drafts() {
        WORLD.refuses("draft of no thing", INDEX, x -> x.draft(SALE, 0, 1, 3, 1, 2));
        WORLD.refuses("draft of no kind", ARGUMENT, x -> x.draft(3, 0, 1, 0, 1, 2));
        WORLD.refuses("draft of too much", ARGUMENT, x -> x.draft(SALE, 0, 1, 0, 2, 1));
        WORLD.refuses("draft for itself", ARGUMENT, x -> x.draft(SALE, 0, 0, 0, 1, 2));
        WORLD.refuses("draft of a dead one", STATE, x -> x.draft(SALE, DEAD, 1, 0, 1, 2));
        WORLD.refuses("power of no thing", INDEX, x -> x.power(0, 1, 3, 1, true));
        WORLD.refuses("power of no days", ARGUMENT, x -> x.power(0, 1, 0, 0, true));
        WORLD.refuses("power for itself", ARGUMENT, x -> x.power(0, 0, 0, 1, true));
        WORLD.refuses("power for a dead one", STATE, x -> x.power(0, DEAD, 0, 1, true));
        WORLD.refuses("will of nobody", INDEX, x -> x.will(9, 0, 1, 2));
        WORLD.refuses("will of too much", ARGUMENT, x -> x.will(0, 1, 101, 101));
        WORLD.refuses("will for itself", ARGUMENT, x -> x.will(0, 0, 1, 2));
        WORLD.refuses("will for a dead one", STATE, x -> x.will(0, DEAD, 1, 2));
    }

    @Says(promise = 0, words = "a call that throws changes nothing")
    static void signatures() {
        WORLD.refuses("no deed", INDEX, x -> x.sign(13, 0, true, NONE));
        WORLD.refuses("nobody", INDEX, x -> x.sign(DRAFTED_WILL, 9, true, NONE));
        WORLD.refuses("no power", INDEX, x -> x.sign(DRAFTED_WILL, 0, true, 13));
        WORLD.refuses("closed", STATE, x -> x.sign(VOID_SALE, 0, true, NONE));
        WORLD.refuses("signed", STATE, x -> x.sign(DRAFTED_SALE, 0, true, NONE));
        WORLD.refuses("signed by a power, by another one", STATE, x -> x.sign(DRAFTED_POWER, 1, true, POWER_BY_IT));
        WORLD.refuses("signed by a power, by itself", STATE, x -> x.sign(DRAFTED_POWER, 0, true, NONE));
        WORLD.refuses("for the taker, by the giver's", STATE, x -> x.sign(DRAFTED_SALE, 4, false, FULL_POWER));
        WORLD.refuses("by a power of another thing", STATE, x -> x.sign(DRAFTED_SALE, 2, false, REVOKED_POWER));
        WORLD.refuses("a will by a power", STATE, x -> x.sign(DRAFTED_WILL, 4, true, FULL_POWER));
        WORLD.refuses("a will for its taker", STATE, x -> x.sign(DRAFTED_WILL, 2, false, NONE));
        WORLD.refuses("for a dead one", STATE, x -> x.sign(OF_THE_DEAD, DEAD, true, NONE));
    }

    @Says(promise = 0, words = "a call that throws changes nothing")
    static void partsAndClosing() {
        WORLD.refuses("READ of no deed", INDEX, x -> x.add(13, READ));
        WORLD.refuses("no part", ARGUMENT, x -> x.add(DRAFTED_SALE, READ | TOLD));
        WORLD.refuses("READ again", STATE, x -> x.add(DRAFTED_SALE, READ));
        WORLD.refuses("TOLD of a closed one", STATE, x -> x.add(LESSER_SALE, TOLD));
        WORLD.refuses("nobody is a witness", INDEX, x -> x.witness(DRAFTED_SALE, 9));
        WORLD.refuses("a witness again", STATE, x -> x.witness(DRAFTED_SALE, 4));
        WORLD.refuses("the giver as a witness", STATE, x -> x.witness(DRAFTED_SALE, 0));
        WORLD.refuses("a child as a witness", STATE, x -> x.witness(DRAFTED_SALE, 2));
        WORLD.refuses("a ward as a witness", STATE, x -> x.witness(DRAFTED_SALE, WARD));
        WORLD.refuses("a young one as a witness", STATE, x -> x.witness(DRAFTED_WILL, YOUNG));
        WORLD.refuses("a dead one as a witness", STATE, x -> x.witness(DRAFTED_WILL, DEAD));
        WORLD.refuses("a witness of a closed one", STATE, x -> x.witness(LESSER_SALE, 4));
        WORLD.refuses("closing of no deed", INDEX, x -> x.close(13));
        WORLD.refuses("closing again", STATE, x -> x.close(VOID_SALE));
        WORLD.refuses("closing for a dead one", STATE, x -> x.close(OF_THE_DEAD));
    }

    @Says(promise = 0, words = "a call that throws changes nothing")
    static void powersAndPapers() {
        WORLD.refuses("revoking of no deed", INDEX, x -> Edge.bit(x.revoke(13, true)));
        WORLD.refuses("revoking of a drafted one", STATE, x -> Edge.bit(x.revoke(DRAFTED_POWER, true)));
        WORLD.refuses("revoking of a will", STATE, x -> Edge.bit(x.revoke(FULL_WILL, true)));
        WORLD.refuses("isGood of no deed", INDEX, x -> Edge.bit(x.isGood(13)));
        WORLD.refuses("copy of no deed", INDEX, x -> x.copy(13));
        WORLD.refuses("copy of a drafted one", STATE, x -> x.copy(DRAFTED_SALE));
        WORLD.after(x -> x.copy(FULL_GIFT), x -> x.copy(FULL_GIFT)).refuses("a fifth", STATE, x -> x.copy(FULL_GIFT));
        WORLD.refuses("loss of no deed", INDEX, x -> x.lose(13));
        WORLD.refuses("loss of a drafted one", STATE, x -> x.lose(DRAFTED_SALE));
        Edge lost = WORLD.after(x -> x.lose(FULL_GIFT), x -> x.lose(FULL_GIFT));
        lost.refuses("loss of what is lost", STATE, x -> x.lose(FULL_GIFT));
        lost.refuses("copy of what is lost", STATE, x -> x.copy(FULL_GIFT));
        WORLD.refuses("proof of no deed", INDEX, x -> x.proof(13));
    }

    @Says(promise = 0, words = "a call that throws changes nothing")
    static void theRegister() {
        WORLD.refuses("entering of no deed", INDEX, x -> x.enter(13));
        int[] deeds = {FULL_POWER, ENTERED_SALE, LESSER_SALE, VOID_SALE, DRAFTED_SALE, FULL_WILL, TOO_GREAT_SALE, OF_THE_DEAD};
        WORLD.refusesEach("entering of", STATE, (x, deed) -> x.enter(deed), deeds);
        WORLD.refusesEach("the death of nobody", INDEX, (x, person) -> x.die(person), NONE, 9);
        WORLD.refuses("the death of a dead one", STATE, x -> x.die(DEAD));
        WORLD.refusesEach("entry", INDEX, (x, entry) -> x.entry(entry, 0), NONE, 2);
        WORLD.refusesEach("entry, what", ARGUMENT, (x, what) -> x.entry(0, what), -1, 4);
        WORLD.refusesEach("deed, what", ARGUMENT, (x, what) -> x.deed(0, what), -1, 6);
        WORLD.refuses("label at the place -1", INDEX, x -> x.label(0, -1));
        WORLD.refuses("search of no thing", INDEX, x -> x.search(3, 0, 1));
        WORLD.refuses("search to under from", ARGUMENT, x -> x.search(0, 1, 0));
        WORLD.refuses("pledge of rank -1", INDEX, x -> x.pledge(0, -1));
        WORLD.refuses("share of nobody", INDEX, x -> x.share(0, 9, true));
        WORLD.refuses("shareAnew of nobody", INDEX, x -> x.shareAnew(0, 9, true));
    }
}
