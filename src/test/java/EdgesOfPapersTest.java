/** The edges of papers, and promises 18 to 20. */
public final class EdgesOfPapersTest {
    private static final int NONE = DeedProtocol.NONE;
    private static final int MIN = Integer.MIN_VALUE;
    private static final int MAX = Integer.MAX_VALUE;
    private static final Class<?> INDEX = Check.INDEX;
    private static final Class<?> STATE = Check.STATE;

    /** Deed 0, drafted; deed 1, closed. */
    private static final Edge TWO = new Edge(() -> {
        DeedProtocol x = Notary.withAdults(4);
        x.thing(0, 100);
        x.will(0, 1, 1, 2);
        Notary.fullSale(x, 0, 1, 0, 1, 2);
        return x;
    });

    /** The same with the papers of deed 1 lost. */
    private static final Edge LOST = TWO.after(x -> x.lose(1));

    /** The same with three copies of the original of deed 1. */
    private static final Edge FOUR = TWO.after(x -> x.copy(1), x -> x.copy(1), x -> x.copy(1));

    public static void main(String[] args) throws IllegalAccessException {
        Sentences.hold(EdgesOfPapersTest.class);
    }

    @Says(promise = 0, words = "Of a closed deed there is the original, of the grade 0.")
    static void theOriginal() {
        TWO.answers("drafted", NONE, x -> x.proof(0));
        TWO.answers("FULL", 0, x -> x.proof(1));
        TWO.answers("VOID", 0, x -> x.close(0), x -> x.proof(0));
        TWO.answers("LESSER", 0, x -> x.sign(0, 0, true, NONE), x -> x.close(0), x -> x.proof(0));
        TWO.answers("one paper alone", NONE, x -> x.lose(1));
    }

    @Says(promise = 0, words = "A copy is made of the paper with the least grade that is there, and has the next grade")
    static void copiesOfTheLeastGrade() {
        TWO.answers("the first copy", 1, x -> x.copy(1));
        TWO.answers("the second copy is of the original, too", 1, x -> x.copy(1), x -> x.copy(1));
        Edge copyAlone = TWO.after(x -> x.copy(1), x -> x.lose(1));
        copyAlone.answers("a copy of the copy", 2, x -> x.copy(1));
        copyAlone.answers("another one", 2, x -> x.copy(1), x -> x.copy(1));
        copyAlone.answers("a copy of the copy's copy", 3, x -> x.copy(1), x -> x.lose(1), x -> x.copy(1));
        Edge mixed = FOUR.after(x -> x.lose(1), x -> x.copy(1), x -> x.lose(1));
        mixed.answers("of 1, 1 and 2", 2, x -> x.copy(1));
        mixed.answers("of 1 and 2", 2, x -> x.lose(1), x -> x.copy(1));
        mixed.answers("of 2", 3, x -> x.lose(1), x -> x.lose(1), x -> x.copy(1));
    }

    @Says(promise = 0, words = "at most 4 papers are there of a deed")
    static void fourPapers() {
        TWO.answers("the fourth", 1, x -> x.copy(1), x -> x.copy(1), x -> x.copy(1));
        FOUR.refuses("a fifth", STATE, x -> x.copy(1));
        FOUR.answers("one in the place of one that is lost", 2, x -> x.lose(1), x -> x.copy(1));
        FOUR.after(x -> x.lose(1), x -> x.copy(1)).refuses("a fifth then", STATE, x -> x.copy(1));
        FOUR.answers("another deed's", 1, x -> x.close(0), x -> x.copy(0));
    }

    @Says(promise = 0, words = "What is lost is the paper with the least grade.")
    static void theLeastGradeIsLost() {
        int[] due = {1, 1, 2, NONE};
        Edge papers = FOUR.after(x -> x.lose(1), x -> x.copy(1));
        for (int i = 0; i < due.length; i++) {
            int times = i;
            papers.after(x -> {
                for (int k = 0; k < times; k++) {
                    x.lose(1);
                }
                return times;
            }).answers("of 1, 1, 1 and 2, behind " + times, due[i], x -> x.lose(1));
        }
        FOUR.answers("the original ahead of copies", 1, x -> x.lose(1), x -> x.proof(1));
    }

    // ---- copy

    @Says(promise = 18, words = "Throws `IndexOutOfBoundsException` if there is no such deed")
    static void copyNoDeed() {
        TWO.answers("the last deed", 1, x -> x.copy(1));
        TWO.refusesEach("deed", INDEX, (x, deed) -> x.copy(deed), NONE, 2, MIN, MAX);
    }

    @Says(promise = 18, words = "Throws `IllegalStateException` if it is not closed, there is no paper of it, or there are 4")
    static void copyRefused() {
        TWO.refuses("not closed", STATE, x -> x.copy(0));
        LOST.refuses("no paper", STATE, x -> x.copy(1));
        FOUR.refuses("4", STATE, x -> x.copy(1));
        FOUR.answers("3", 2, x -> x.lose(1), x -> x.copy(1));
        FOUR.after(x -> x.lose(1), x -> x.lose(1), x -> x.lose(1), x -> x.lose(1))
                .refuses("no paper, of 4", STATE, x -> x.copy(1));
    }

    @Says(promise = 18, words = "Returns its grade.")
    static void gradesRiseWithoutEnd() {
        DeedProtocol x = Notary.withAdults(2);
        x.close(x.will(0, 1, 1, 2));
        for (int grade = 1; grade <= 200; grade++) {
            Check.equal("a copy", x.copy(0), grade);
            Check.equal("the paper ahead of it is lost", x.lose(0), grade);
        }
    }

    // ---- lose

    @Says(promise = 19, words = "Throws `IndexOutOfBoundsException` if there is no such deed")
    static void loseOfNoDeed() {
        TWO.answers("the last deed", NONE, x -> x.lose(1));
        TWO.refusesEach("deed", INDEX, (x, deed) -> x.lose(deed), NONE, 2, MIN, MAX);
    }

    @Says(promise = 19, words = "Throws `IllegalStateException` if there is no paper of it")
    static void loseRefused() {
        TWO.refuses("not closed", STATE, x -> x.lose(0));
        LOST.refuses("lost already", STATE, x -> x.lose(1));
    }

    @Says(promise = 19, words = "Returns the least grade then; NONE if there is no paper any more.")
    static void leastGradeThen() {
        TWO.answers("the only one", NONE, x -> x.lose(1));
        TWO.answers("the original of two", 1, x -> x.copy(1), x -> x.lose(1));
        TWO.answers("the last of two", NONE, x -> x.copy(1), x -> x.lose(1), x -> x.lose(1));
    }

    // ---- proof

    @Says(promise = 20, words = "Throws `IndexOutOfBoundsException` if there is no such deed")
    static void proofOfNoDeed() {
        TWO.answers("the last deed", 0, x -> x.proof(1));
        TWO.refusesEach("deed", INDEX, (x, deed) -> x.proof(deed), NONE, 2, MIN, MAX);
    }

    @Says(promise = 20, words = "Returns the grade; NONE if there is no paper.")
    static void proofOrNone() {
        TWO.answers("the original", 0, x -> x.proof(1));
        TWO.answers("the original beside a copy", 0, x -> x.copy(1), x -> x.proof(1));
        TWO.answers("a copy alone", 1, x -> x.copy(1), x -> x.lose(1), x -> x.proof(1));
        LOST.answers("none any more", NONE, x -> x.proof(1));
        TWO.answers("none yet", NONE, x -> x.proof(0));
    }
}
