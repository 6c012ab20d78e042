/** Promises 13 to 15: close, deed, label. */
public final class ClosingTest {
    private static final int NONE = DeedProtocol.NONE;
    private static final int GIVEN = DeedProtocol.GIVEN;
    private static final int TAKEN = DeedProtocol.TAKEN;
    private static final int READ = DeedProtocol.READ;
    private static final int WITNESSED = DeedProtocol.WITNESSED;
    private static final int TOLD = DeedProtocol.TOLD;

    public static void main(String[] args) {
        everyKindWithEveryPart();
        refusals();
        numbersAndDays();
        whatDeedsAre();
        labels();
        longLabels();
        Check.end();
    }

    /** All kinds, all sets of parts that can be had, and foreigners on either side. */
    private static void everyKindWithEveryPart() {
        for (int kind = DeedProtocol.SALE; kind <= DeedProtocol.WILL; kind++) {
            for (int parts = 0; parts < 32; parts++) {
                for (int foreign = 0; foreign < 4; foreign++) {
                    if (kind != DeedProtocol.WILL || (parts & TAKEN) == 0) {
                        closesAsDue(kind, parts, (foreign & 1) != 0, (foreign & 2) != 0);
                    }
                }
            }
        }
    }

    private static void closesAsDue(int kind, int parts, boolean isGiverForeign, boolean isTakerForeign) {
        DeedProtocol x = new DeedProtocol();
        x.person(30, isGiverForeign);
        x.person(30, isTakerForeign);
        x.person(30, true);
        x.person(30, false);
        x.thing(0, 100);
        int deed = drafted(x, kind);
        bring(x, deed, parts);
        String what = "kind " + kind + ", parts " + parts + ", foreign " + isGiverForeign + " " + isTakerForeign;
        Check.equal("parts of " + what, x.deed(deed, 2), parts);
        int due = dueState(kind, parts, isGiverForeign, isTakerForeign);
        Check.equal("close of " + what, x.close(deed), due);
        Check.equal("state of " + what, x.deed(deed, 0), due);
        Check.equal("parts then of " + what, x.deed(deed, 2), parts);
    }

    private static int drafted(DeedProtocol x, int kind) {
        if (kind == DeedProtocol.POWER) {
            return x.power(0, 1, 0, 100, true);
        }
        return kind == DeedProtocol.WILL ? x.will(0, 1, 1, 2) : x.draft(kind, 0, 1, 0, 1, 2);
    }

    private static void bring(DeedProtocol x, int deed, int parts) {
        if ((parts & GIVEN) != 0) {
            x.sign(deed, 0, true, NONE);
        }
        if ((parts & TAKEN) != 0) {
            x.sign(deed, 1, false, NONE);
        }
        if ((parts & READ) != 0) {
            x.add(deed, READ);
        }
        if ((parts & WITNESSED) != 0) {
            x.witness(deed, 2);
            x.witness(deed, 3);
        }
        if ((parts & TOLD) != 0) {
            x.add(deed, TOLD);
        }
    }

    private static int dueState(int kind, int parts, boolean isGiverForeign, boolean isTakerForeign) {
        int[] needed = {
            GIVEN | READ | TAKEN,
            GIVEN | READ | TAKEN | WITNESSED,
            GIVEN | READ | TAKEN,
            GIVEN | READ,
            GIVEN | READ | WITNESSED,
        };
        int[] least = {GIVEN | TAKEN, GIVEN | TAKEN, GIVEN | TAKEN, GIVEN, GIVEN};
        int due = needed[kind] | (isGiverForeign || isTakerForeign && kind <= DeedProtocol.PLEDGE ? TOLD : 0);
        if ((parts & due) == due) {
            return DeedProtocol.FULL;
        }
        return (parts & least[kind]) == least[kind] ? DeedProtocol.LESSER : DeedProtocol.VOID;
    }

    private static void refusals() {
        DeedProtocol x = Notary.withAdults(4);
        x.thing(0, 100);
        x.draft(DeedProtocol.SALE, 0, 1, 0, 1, 2);
        x.power(2, 1, 0, 5, true);
        x.will(0, 3, 1, 2);
        Check.refuses("no such deed", Check.INDEX, () -> x.close(3));
        Check.refuses("NONE", Check.INDEX, () -> x.close(NONE));
        x.close(0);
        Check.refuses("a closed deed", Check.STATE, () -> x.close(0));
        x.die(1);
        x.die(0);
        Check.refuses("a closed deed of the dead", Check.STATE, () -> x.close(0));
        Check.refuses("a dead taker", Check.STATE, () -> x.close(1));
        Check.refuses("a dead giver", Check.STATE, () -> x.close(2));
        Check.equal("it stays drafted", x.deed(1, 0), DeedProtocol.DRAFTED);
        Check.equal("without a number", x.deed(1, 3), 0);
        Check.equal("without a day", x.deed(1, 4), NONE);
        Check.equal("without a paper", x.proof(1), NONE);
        x.will(2, 3, 1, 2);
        x.close(3);
        Check.equal("refusals took no number", x.deed(3, 3), 2);
    }

    private static void numbersAndDays() {
        DeedProtocol x = Notary.withAdults(3);
        for (int i = 0; i < 3; i++) {
            x.will(0, 1, 1, 2);
        }
        x.pass(7);
        x.close(2);
        x.sign(0, 0, true, NONE);
        x.close(0);
        x.pass(3);
        x.close(1);
        Check.equal("the first closed one, VOID", x.deed(2, 3), 1);
        Check.equal("the second, LESSER", x.deed(0, 3), 2);
        Check.equal("the third", x.deed(1, 3), 3);
        Check.equal("day of the first", x.deed(2, 4), 7);
        Check.equal("day of the second", x.deed(0, 4), 7);
        Check.equal("day of the third", x.deed(1, 4), 10);
    }

    private static void whatDeedsAre() {
        DeedProtocol x = Notary.withAdults(2);
        x.thing(0, 100);
        x.close(x.will(0, 1, 1, 2));
        int sale = Notary.fullSale(x, 0, 1, 0, 1, 2);
        Check.equal("not entered", x.deed(sale, 5), NONE);
        x.enter(sale);
        int[] due = {DeedProtocol.FULL, DeedProtocol.SALE, GIVEN | TAKEN | READ, 2, 0, 0};
        for (int what = 0; what < due.length; what++) {
            Check.equal("what " + what, x.deed(sale, what), due[what]);
        }
        Check.refuses("what -1", Check.ARGUMENT, () -> x.deed(sale, -1));
        Check.refuses("what 6", Check.ARGUMENT, () -> x.deed(sale, 6));
        Check.refuses("what MAX", Check.ARGUMENT, () -> x.deed(sale, Integer.MAX_VALUE));
        Check.refuses("no such deed", Check.INDEX, () -> x.deed(2, 0));
        Check.refuses("no such deed, no such question", Check.INDEX, () -> x.deed(-1, 6));
    }

    private static void labelIs(DeedProtocol x, int deed, String due) {
        for (int place = 0; place < due.length(); place++) {
            Check.equal("label of " + deed + " at " + place, x.label(deed, place), due.charAt(place));
        }
        Check.equal("behind the label of " + deed, x.label(deed, due.length()), '.');
        Check.equal("far behind the label of " + deed, x.label(deed, Integer.MAX_VALUE), '.');
    }

    private static void labels() {
        DeedProtocol x = Notary.withAdults(4);
        x.thing(0, 100);
        x.draft(DeedProtocol.SALE, 0, 1, 0, 1, 2);
        x.draft(DeedProtocol.GIFT, 0, 1, 0, 1, 2);
        x.draft(DeedProtocol.PLEDGE, 0, 1, 0, 1, 2);
        x.power(0, 1, 0, 5, true);
        x.will(0, 1, 1, 2);
        String letters = "SGPAW";
        for (int i = 0; i < letters.length(); i++) {
            labelIs(x, i, letters.charAt(i) + "0");
        }
        x.close(0);
        labelIs(x, 0, "S1,v");
        x.sign(3, 0, true, NONE);
        x.close(3);
        labelIs(x, 3, "A2,l");
        x.sign(4, 0, true, NONE);
        x.add(4, READ);
        x.witness(4, 2);
        x.witness(4, 3);
        x.close(4);
        labelIs(x, 4, "W3,f");
        labelIs(x, 1, "G0");
        Check.refuses("no such deed", Check.INDEX, () -> x.label(5, 0));
        Check.refuses("place -1", Check.INDEX, () -> x.label(0, -1));
        Check.refuses("place MIN", Check.INDEX, () -> x.label(0, Integer.MIN_VALUE));
    }

    private static void longLabels() {
        DeedProtocol x = Notary.withAdults(2);
        for (int i = 0; i < 60; i++) {
            x.close(x.will(0, 1, 1, 2));
        }
        labelIs(x, 8, "W9,v");
        labelIs(x, 9, "W10,v");
        labelIs(x, 59, "W60,v");
    }
}
