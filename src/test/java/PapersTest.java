/** Promises 18 to 20: copy, lose, proof. */
public final class PapersTest {
    private static final int NONE = DeedProtocol.NONE;

    public static void main(String[] args) {
        draftedDeeds();
        copies();
        copiesOfCopies();
        allLost();
        wrongNumbers();
        everyState();
        Check.end();
    }

    private static DeedProtocol withDraft() {
        DeedProtocol x = Notary.withAdults(2);
        x.thing(0, 100);
        x.will(0, 1, 1, 2);
        return x;
    }

    private static void draftedDeeds() {
        DeedProtocol x = withDraft();
        Check.equal("proof", x.proof(0), NONE);
        Check.refuses("copy", Check.STATE, () -> x.copy(0));
        Check.refuses("lose", Check.STATE, () -> x.lose(0));
        x.close(0);
        Check.equal("the original", x.proof(0), 0);
    }

    private static void copies() {
        DeedProtocol x = withDraft();
        x.close(0);
        for (int i = 0; i < 3; i++) {
            Check.equal("a copy of the original", x.copy(0), 1);
            Check.equal("proof", x.proof(0), 0);
        }
        Check.refuses("a fifth paper", Check.STATE, () -> x.copy(0));
        Check.equal("the original is lost", x.lose(0), 1);
        Check.equal("proof", x.proof(0), 1);
        Check.equal("a copy of a copy", x.copy(0), 2);
        Check.refuses("a fifth paper", Check.STATE, () -> x.copy(0));
        Check.equal("the first copy is lost", x.lose(0), 1);
        Check.equal("the second copy is lost", x.lose(0), 1);
        Check.equal("the third copy is lost", x.lose(0), 2);
        Check.equal("the copy of a copy is lost", x.lose(0), NONE);
    }

    private static void copiesOfCopies() {
        DeedProtocol x = withDraft();
        x.close(0);
        for (int grade = 1; grade < 40; grade++) {
            Check.equal("a copy of the last one", x.copy(0), grade);
            Check.equal("the last one is lost", x.lose(0), grade);
        }
        Check.equal("proof", x.proof(0), 39);
    }

    private static void allLost() {
        DeedProtocol x = withDraft();
        x.close(0);
        Check.equal("the only paper is lost", x.lose(0), NONE);
        Check.equal("proof", x.proof(0), NONE);
        Check.refuses("copy", Check.STATE, () -> x.copy(0));
        Check.refuses("lose", Check.STATE, () -> x.lose(0));
        Check.equal("it is closed still", x.deed(0, 3), 1);
    }

    private static void wrongNumbers() {
        DeedProtocol x = withDraft();
        for (int deed : new int[] {1, NONE, Integer.MIN_VALUE, Integer.MAX_VALUE}) {
            Check.refuses("copy(" + deed + ")", Check.INDEX, () -> x.copy(deed));
            Check.refuses("lose(" + deed + ")", Check.INDEX, () -> x.lose(deed));
            Check.refuses("proof(" + deed + ")", Check.INDEX, () -> x.proof(deed));
        }
    }

    private static void everyState() {
        DeedProtocol x = withDraft();
        int full = Notary.fullSale(x, 0, 1, 0, 1, 2);
        int lesser = Notary.closedWill(x, 0, 1, 1, 2);
        x.close(0);
        Check.equal("of a FULL deed", x.copy(full), 1);
        Check.equal("of a LESSER deed", x.copy(lesser), 1);
        Check.equal("of a VOID deed", x.copy(0), 1);
        x.die(0);
        Check.equal("of a dead one's deed", x.lose(full), 1);
        Check.equal("each deed has its own", x.proof(lesser), 0);
    }
}
