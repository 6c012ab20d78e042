/** Promise 22: die; who gets what the dead leave. */
public final class DeathsTest {
    private static final int NONE = DeedProtocol.NONE;

    public static void main(String[] args) {
        refusals();
        entriesByThings();
        toChildren();
        toParents();
        toTheCrown();
        byWill();
        byWillAtMostAHalf();
        theWillThatCounts();
        willsThatCountNot();
        takersWhoAreHeirs();
        anewAsItWas();
        tooMuchBelow();
        tooMuchBelowOfTheCrown();
        exactlyTheBound();
        Check.end();
    }

    private static DeedProtocol withThing(int persons) {
        DeedProtocol x = Notary.withAdults(persons);
        x.thing(0, 100);
        return x;
    }

    private static void refusals() {
        DeedProtocol x = withThing(2);
        Check.refuses("no such person", Check.INDEX, () -> x.die(2));
        Check.refuses("the crown", Check.INDEX, () -> x.die(NONE));
        Check.equal("one who has nothing", x.die(1), 0);
        Check.refuses("a dead one", Check.STATE, () -> x.die(1));
        Check.equal("entries", x.entries(), 0);
    }

    private static void entriesByThings() {
        DeedProtocol x = Notary.withAdults(3);
        x.thing(0, 100);
        x.thing(1, 100);
        x.thing(0, 100);
        x.thing(0, 100);
        Notary.sell(x, 0, 1, 2, 1, 1);
        Notary.sell(x, 1, 0, 1, 1, 3);
        x.pass(9);
        Check.equal("things with a share", x.die(0), 3);
        Check.equal("entries", x.entries(), 5);
        int[] things = {0, 1, 3};
        for (int i = 0; i < things.length; i++) {
            Check.equal("kind of " + i, x.entry(2 + i, 0), DeedProtocol.DEATH);
            Check.equal("person of " + i, x.entry(2 + i, 1), 0);
            Check.equal("thing of " + i, x.entry(2 + i, 2), things[i]);
            Check.equal("day of " + i, x.entry(2 + i, 3), 9);
        }
        Notary.shareIs(x, "of the dead", 0, 0, 0, 1);
        Notary.shareIs(x, "of the crown", 1, NONE, 1, 3);
    }

    private static void toChildren() {
        DeedProtocol x = withThing(6);
        x.child(0, 1);
        x.child(1, 2);
        x.child(1, 3);
        x.child(1, 4);
        x.child(4, 5);
        Notary.sell(x, 0, 1, 0, 2, 3);
        x.die(4);
        x.die(1);
        Notary.shareIs(x, "the children who live", 0, 2, 1, 3);
        Notary.shareIs(x, "the children who live", 0, 3, 1, 3);
        Notary.shareIs(x, "not the parent", 0, 0, 1, 3);
        Notary.shareIs(x, "not a dead child", 0, 4, 0, 1);
        Notary.shareIs(x, "nor its child", 0, 5, 0, 1);
        Notary.shareIs(x, "nor the crown", 0, NONE, 0, 1);
    }

    private static void toParents() {
        DeedProtocol x = withThing(6);
        x.thing(2, 100);
        x.child(0, 2);
        x.child(1, 2);
        x.child(2, 3);
        x.child(0, 4);
        x.die(3);
        x.die(2);
        Notary.shareIs(x, "the one parent", 1, 0, 1, 2);
        Notary.shareIs(x, "the other parent", 1, 1, 1, 2);
        Notary.shareIs(x, "not a brother", 1, 4, 0, 1);
        DeedProtocol y = withThing(3);
        y.thing(2, 100);
        y.child(0, 2);
        y.child(1, 2);
        y.die(0);
        Notary.shareIs(y, "a child ahead of all", 0, 2, 1, 1);
        y.die(2);
        Notary.shareIs(y, "the parent who lives", 1, 1, 1, 1);
        Notary.shareIs(y, "the parent who lives", 0, 1, 1, 1);
    }

    private static void toTheCrown() {
        DeedProtocol x = withThing(4);
        x.child(0, 1);
        x.die(1);
        Notary.sell(x, 0, 2, 0, 1, 4);
        x.die(2);
        Notary.shareIs(x, "a quarter", 0, NONE, 1, 4);
        x.die(0);
        Notary.shareIs(x, "all", 0, NONE, 1, 1);
        Notary.shareIs(x, "all", 0, 3, 0, 1);
        Check.equal("nobody has it then", x.die(3), 0);
    }

    private static void byWill() {
        DeedProtocol x = withThing(4);
        Notary.closedWill(x, 0, 2, 2, 3, 1, 3);
        Notary.sell(x, 0, 1, 0, 1, 5);
        x.die(0);
        Notary.shareIs(x, "2 by 3 of 4 by 5", 0, 2, 8, 15);
        Notary.shareIs(x, "what is left to the crown", 0, NONE, 4, 15);
        DeedProtocol y = withThing(4);
        Notary.closedWill(y, 0, 2, 1, 1, 1, 3);
        y.die(0);
        Notary.shareIs(y, "all", 0, 2, 1, 1);
        Notary.shareIs(y, "nothing is left", 0, NONE, 0, 1);
        DeedProtocol z = Notary.withAdults(5);
        z.thing(2, 100);
        z.child(0, 2);
        z.child(1, 2);
        Notary.closedWill(z, 2, 3, 2, 3);
        z.die(2);
        Notary.shareIs(z, "parents hinder no more than a half", 0, 3, 2, 3);
        Notary.shareIs(z, "what is left to the parents", 0, 0, 1, 6);
        Notary.shareIs(z, "what is left to the parents", 0, 1, 1, 6);
    }

    private static void byWillAtMostAHalf() {
        int[][] wills = {{1, 3, 1, 3, 1, 3}, {1, 2, 1, 2, 1, 4}, {50, 99, 1, 2, 1, 4}, {49, 99, 49, 99, 25, 99},
            {1, 1, 1, 2, 1, 4}, {2, 4, 1, 2, 1, 4}};
        for (int[] will : wills) {
            DeedProtocol x = withThing(6);
            x.child(0, 1);
            x.child(0, 2);
            Notary.closedWill(x, 0, 3, will[0], will[1], 4, 5);
            x.die(0);
            String when = "a will of " + will[0] + " by " + will[1];
            Notary.shareIs(x, when, 0, 3, will[2], will[3]);
            Notary.shareIs(x, when, 0, 1, will[4], will[5]);
            Notary.shareIs(x, when, 0, 2, will[4], will[5]);
        }
        DeedProtocol y = withThing(4);
        y.child(0, 1);
        Notary.closedWill(y, 0, 2, 3, 4);
        y.die(1);
        y.die(0);
        Notary.shareIs(y, "children who are dead hinder nothing", 0, 2, 3, 4);
        Notary.shareIs(y, "and the crown has the rest", 0, NONE, 1, 4);
    }

    /** Wills for 1 to 4; those who take nothing have nothing. */
    private static void theWillThatCounts() {
        DeedProtocol x = withThing(7);
        int early = x.will(0, 1, 1, 2);
        int late = x.will(0, 2, 1, 3);
        x.sign(late, 0, true, NONE);
        x.close(late);
        x.sign(early, 0, true, NONE);
        x.close(early);
        x.die(0);
        Notary.shareIs(x, "the one that was closed last", 0, 1, 1, 2);
        Notary.shareIs(x, "not the one that was drafted last", 0, 2, 0, 1);
        DeedProtocol y = withThing(7);
        Notary.closedWill(y, 0, 1, 1, 5, 5, 6);
        Notary.closedWill(y, 0, 2, 1, 4, 5, 6);
        Notary.closedWill(y, 0, 3, 1, 3);
        y.die(0);
        Notary.shareIs(y, "the last of the FULL ones", 0, 2, 1, 4);
        Notary.shareIs(y, "what is left", 0, NONE, 3, 4);
        DeedProtocol z = withThing(7);
        Notary.closedWill(z, 0, 1, 1, 5, 5, 6);
        Notary.closedWill(z, 0, 2, 1, 4, 5, 6);
        Notary.closedWill(z, 0, 3, 1, 3);
        Notary.closedWill(z, 0, 4, 1, 2);
        z.die(2);
        z.die(4);
        z.die(0);
        Notary.shareIs(z, "the FULL one whose taker lives", 0, 1, 1, 5);
        lesserWhenFullTakersAreDead();
    }

    private static void lesserWhenFullTakersAreDead() {
        DeedProtocol x = withThing(7);
        Notary.closedWill(x, 0, 3, 1, 3);
        Notary.closedWill(x, 0, 4, 1, 2);
        Notary.closedWill(x, 0, 1, 1, 5, 5, 6);
        x.die(1);
        x.die(4);
        x.die(0);
        Notary.shareIs(x, "the LESSER one whose taker lives", 0, 3, 1, 3);
        Notary.shareIs(x, "what is left", 0, NONE, 2, 3);
    }

    private static void willsThatCountNot() {
        DeedProtocol x = withThing(5);
        int drafted = x.will(0, 1, 1, 2);
        x.sign(drafted, 0, true, NONE);
        int empty = x.will(0, 2, 1, 2);
        x.close(empty);
        Notary.closedWill(x, 1, 2, 1, 2);
        Notary.fullPower(x, 0, 3, NONE, 5, true);
        Notary.fullSale(x, 0, 3, 0, 1, 2);
        x.die(0);
        Notary.shareIs(x, "no will at all", 0, NONE, 1, 1);
        DeedProtocol y = withThing(3);
        int lost = Notary.closedWill(y, 0, 1, 1, 2);
        y.lose(lost);
        y.guard(0, 2);
        y.pass(1000);
        y.die(0);
        Notary.shareIs(y, "a will needs no paper", 0, 1, 1, 2);
    }

    private static void takersWhoAreHeirs() {
        DeedProtocol x = withThing(5);
        x.child(0, 1);
        x.child(0, 2);
        Notary.closedWill(x, 0, 1, 1, 3);
        x.die(0);
        Notary.shareIs(x, "a third, and a half of the rest", 0, 1, 2, 3);
        Notary.shareIs(x, "a half of the rest", 0, 2, 1, 3);
        DeedProtocol y = Notary.withAdults(3);
        y.thing(1, 100);
        y.child(0, 1);
        Notary.closedWill(y, 1, 0, 3, 4);
        y.die(1);
        Notary.shareIs(y, "a parent, by will and without", 0, 0, 1, 1);
    }

    private static void anewAsItWas() {
        DeedProtocol x = withThing(8);
        x.child(0, 1);
        x.child(0, 2);
        Notary.closedWill(x, 0, 3, 1, 2);
        x.die(0);
        x.die(1);
        x.die(3);
        Notary.shareIs(x, "the crown has of 1 and 3", 0, NONE, 3, 4);
        Notary.shareIs(x, "the child who lives", 0, 2, 1, 4);
        x.child(2, 4);
        x.die(2);
        Notary.shareIs(x, "a child told later", 0, 4, 1, 4);
        Notary.shareIs(x, "it has nothing of the first one", 0, NONE, 3, 4);
    }

    /** 1 by 97, then 1 by 89 and 1 by 83 of it by wills, is 1 by 716539; a half of that is too little. */
    private static void tooMuchBelow() {
        DeedProtocol x = Notary.withAdults(8);
        x.thing(7, 100);
        x.thing(0, 100);
        x.thing(3, 100);
        Notary.sell(x, 0, 1, 1, 1, 97);
        Notary.closedWill(x, 1, 2, 1, 89);
        Notary.closedWill(x, 2, 3, 1, 83);
        Notary.closedWill(x, 3, 4, 1, 2);
        x.die(1);
        x.die(2);
        Notary.shareIs(x, "the third will's", 1, 3, 1, 716539);
        x.guard(5, 3);
        Check.refuses("the fourth will's", Check.STATE, () -> x.die(3));
        Check.yes("it lives still", x.isAble(3));
        Check.equal("it is a guardian still", x.guard(5, 3), 3);
        Check.equal("entries", x.entries(), 3);
        Notary.shareIs(x, "nothing is moved", 1, 3, 1, 716539);
        Notary.shareIs(x, "nor of other things", 2, 3, 1, 1);
        Notary.sell(x, 3, 6, 2, 1, 1);
        Check.refuses("without another thing, too", Check.STATE, () -> x.die(3));
        Notary.closedWill(x, 3, 4, 1, 1);
        Check.equal("a will of all", x.die(3), 1);
        Notary.shareIs(x, "all of it", 1, 4, 1, 716539);
    }

    private static void tooMuchBelowOfTheCrown() {
        DeedProtocol x = withThing(4);
        Notary.sell(x, 0, 1, 0, 1, 2);
        Notary.sell(x, 0, 2, 0, 1, 97);
        Notary.sell(x, 0, 2, 0, 1, 89);
        Notary.sell(x, 1, 3, 0, 1, 83);
        Notary.sell(x, 1, 3, 0, 1, 79);
        Check.equal("8633 below", x.die(2), 1);
        Check.refuses("8633 times 6557 below", Check.STATE, () -> x.die(3));
        Notary.shareIs(x, "the crown", 0, NONE, 186, 8633);
        Notary.shareIs(x, "nothing is moved", 0, 3, 162, 6557);
    }

    private static void exactlyTheBound() {
        DeedProtocol x = withThing(5);
        Notary.sell(x, 0, 1, 0, 1, 100);
        Notary.closedWill(x, 1, 2, 1, 100);
        Notary.closedWill(x, 2, 3, 1, 100);
        x.die(1);
        Check.equal("1000000 below", x.die(2), 1);
        Notary.shareIs(x, "1000000 below", 0, 3, 1, 1000000);
        Notary.shareIs(x, "the crown", 0, NONE, 9999, 1000000);
    }
}
