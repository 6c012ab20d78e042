/** The edges of deaths: which will counts, who gets what; and promise 22. */
public final class EdgesOfDeathsTest {
    private static final int NONE = DeedProtocol.NONE;
    private static final int DEATH = DeedProtocol.DEATH;
    private static final int MIN = Integer.MIN_VALUE;
    private static final int MAX = Integer.MAX_VALUE;
    private static final Class<?> INDEX = Check.INDEX;
    private static final Class<?> STATE = Check.STATE;

    /** Persons 0 to 9; thing 0 of 0. */
    private static final Edge TEN = new Edge(() -> {
        DeedProtocol x = Notary.withAdults(10);
        x.thing(0, 100);
        return x;
    });

    public static void main(String[] args) throws IllegalAccessException {
        Sentences.hold(EdgesOfDeathsTest.class);
    }

    private static void shareIs(Edge edge, String what, int person, int above, int below) {
        edge.answers(what + ", above of " + person, above, x -> x.share(0, person, false));
        edge.answers(what + ", below of " + person, below, x -> x.share(0, person, true));
        edge.answers(what + ", above anew of " + person, above, x -> x.shareAnew(0, person, false));
        edge.answers(what + ", below anew of " + person, below, x -> x.shareAnew(0, person, true));
    }

    private static long full(DeedProtocol x, int giver, int taker, int above, int below) {
        return Notary.closedWill(x, giver, taker, above, below, 8, 9);
    }

    private static long lesser(DeedProtocol x, int giver, int taker, int above, int below) {
        return Notary.closedWill(x, giver, taker, above, below);
    }

    // ---- what goes, and by which entries

    @Says(promise = 0, words = "When a person dies, of each thing of which it has a share, by rising numbers, that share goes by an entry")
    static void anEntryForEachThing() {
        Edge things = TEN.after(x -> x.thing(1, 5), x -> x.thing(0, 5), x -> x.thing(0, 5), x -> x.pass(4),
                x -> Notary.sell(x, 0, 1, 2, 1, 1), x -> Notary.sell(x, 1, 0, 1, 1, 100));
        things.answers("three of four", 3, x -> x.die(0));
        things.answers("two of four", 2, x -> x.die(1));
        things.answers("none of four", 0, x -> x.die(2));
        int[] numbers = {0, 1, 3};
        for (int i = 0; i < numbers.length; i++) {
            int entry = 2 + i;
            Edge dead = things.after(x -> x.pass(1), x -> x.die(0));
            dead.answers("the kind", DEATH, x -> x.entry(entry, 0));
            dead.answers("the person", 0, x -> x.entry(entry, 1));
            dead.answers("the thing", numbers[i], x -> x.entry(entry, 2));
            dead.answers("the day", 5, x -> x.entry(entry, 3));
            dead.answers("how many", 5, DeedProtocol::entries);
        }
        Edge sold = TEN.after(x -> Notary.sell(x, 0, 1, 0, 1, 1));
        sold.answers("none of what was had", 0, x -> x.die(0));
        TEN.answers("none of a pledge that was taken", 0, x -> x.enter(Notary.fullPledge(x, 0, 1, 0, 1, 1)), x -> x.die(1));
    }

    @Says(promise = 0, words = "its share of the share goes to its taker")
    static void aShareOfTheShare() {
        Edge fifth = TEN.after(x -> full(x, 0, 2, 2, 3), x -> Notary.sell(x, 0, 1, 0, 1, 5), x -> x.die(0));
        shareIs(fifth, "2 by 3 of 4 by 5", 2, 8, 15);
        shareIs(fifth, "what is left", NONE, 4, 15);
        shareIs(fifth, "the dead", 0, 0, 1);
        shareIs(fifth, "another one", 1, 1, 5);
        Edge whole = TEN.after(x -> full(x, 0, 2, 100, 100), x -> x.die(0));
        shareIs(whole, "all of all", 2, 1, 1);
        shareIs(whole, "nothing is left", NONE, 0, 1);
        Edge least = TEN.after(x -> full(x, 0, 2, 1, 100), x -> x.die(0));
        shareIs(least, "1 by 100", 2, 1, 100);
        shareIs(least, "what is left of it", NONE, 99, 100);
    }

    // ---- which will counts

    @Says(promise = 0, words = "of the wills of that person whose takers live then")
    static void takersWhoLiveThen() {
        Edge two = TEN.after(x -> full(x, 0, 2, 1, 3), x -> full(x, 0, 3, 1, 4));
        shareIs(two.after(x -> x.die(0)), "both live", 3, 1, 4);
        shareIs(two.after(x -> x.die(3), x -> x.die(0)), "the last one's taker dead", 2, 1, 3);
        shareIs(two.after(x -> x.die(3), x -> x.die(0)), "the last one's taker dead", 3, 0, 1);
        shareIs(two.after(x -> x.die(2), x -> x.die(0)), "the first one's taker dead", 3, 1, 4);
        shareIs(two.after(x -> x.die(2), x -> x.die(3), x -> x.die(0)), "both dead", NONE, 1, 1);
        shareIs(two.after(x -> x.die(0), x -> x.die(3)), "who dies later has it", NONE, 1, 1);
        Edge others = TEN.after(x -> full(x, 1, 2, 1, 2), x -> x.die(0));
        shareIs(others, "another person's will", 2, 0, 1);
    }

    @Says(promise = 0, words = "the one that was closed last counts")
    static void theLastClosed() {
        Edge drafted = TEN.after(x -> x.will(0, 2, 1, 3), x -> x.will(0, 3, 1, 4), x -> x.sign(0, 0, true, NONE),
                x -> x.sign(1, 0, true, NONE));
        Edge second = drafted.after(x -> x.close(0), x -> x.close(1), x -> x.die(0));
        shareIs(second, "the second", 3, 1, 4);
        shareIs(second, "not the first", 2, 0, 1);
        Edge first = drafted.after(x -> x.close(1), x -> x.close(0), x -> x.die(0));
        shareIs(first, "the first, closed last", 2, 1, 3);
        shareIs(first, "not the second", 3, 0, 1);
        Edge later = drafted.after(x -> x.close(1), x -> x.pass(100), x -> x.close(0), x -> x.die(0));
        shareIs(later, "the first, closed last, days later", 2, 1, 3);
        Edge same = TEN.after(x -> lesser(x, 0, 2, 1, 3), x -> lesser(x, 0, 2, 1, 4), x -> x.die(0));
        shareIs(same, "the last for the same one", 2, 1, 4);
    }

    @Says(promise = 0, words = "of those that are FULL, or, if none is, of the LESSER ones")
    static void fullAheadOfLesser() {
        Edge full = TEN.after(x -> full(x, 0, 2, 1, 3), x -> lesser(x, 0, 3, 1, 4));
        shareIs(full.after(x -> x.die(0)), "the FULL one, closed ahead", 2, 1, 3);
        shareIs(full.after(x -> x.die(2), x -> x.die(0)), "the LESSER one, if the FULL one's taker is dead", 3, 1, 4);
        Edge lesser = TEN.after(x -> lesser(x, 0, 3, 1, 4), x -> full(x, 0, 2, 1, 3));
        shareIs(lesser.after(x -> x.die(0)), "the FULL one, closed last", 2, 1, 3);
        shareIs(lesser.after(x -> x.die(2), x -> x.die(0)), "the LESSER one, closed ahead", 3, 1, 4);
        Edge two = TEN.after(x -> full(x, 0, 2, 1, 3), x -> full(x, 0, 4, 1, 5), x -> lesser(x, 0, 3, 1, 4),
                x -> lesser(x, 0, 5, 1, 6));
        shareIs(two.after(x -> x.die(0)), "the last FULL one", 4, 1, 5);
        shareIs(two.after(x -> x.die(4), x -> x.die(0)), "the FULL one whose taker lives", 2, 1, 3);
        shareIs(two.after(x -> x.die(4), x -> x.die(2), x -> x.die(0)), "the last LESSER one", 5, 1, 6);
    }

    @Says(promise = 0, words = "or a WILL with GIVEN (which stands behind each that is FULL)")
    static void otherWillsCountNot() {
        Edge signed = TEN.after(x -> x.will(0, 2, 1, 2), x -> x.sign(0, 0, true, NONE));
        shareIs(signed.after(x -> x.close(0), x -> x.die(0)), "with GIVEN, closed", 2, 1, 2);
        shareIs(signed.after(x -> x.die(0)), "with GIVEN, not closed", 2, 0, 1);
        Edge unsigned = TEN.after(x -> x.will(0, 2, 1, 2), x -> x.add(0, DeedProtocol.READ), x -> x.close(0), x -> x.die(0));
        shareIs(unsigned, "a VOID one", 2, 0, 1);
        shareIs(unsigned, "a VOID one", NONE, 1, 1);
        Edge ahead = TEN.after(x -> lesser(x, 0, 3, 1, 4), x -> x.close(x.will(0, 2, 1, 2)), x -> x.die(0));
        shareIs(ahead, "a LESSER one ahead of a VOID one", 3, 1, 4);
        Edge others = TEN.after(x -> Notary.fullPower(x, 0, 2, NONE, 9, true), x -> Notary.fullSale(x, 0, 2, 0, 1, 2),
                x -> x.die(0));
        shareIs(others, "no will at all", NONE, 1, 1);
    }

    // ---- who gets what

    @Says(promise = 0, words = "but at most a half, if the person has children who live")
    static void atMostAHalf() {
        int[][] wills = {{49, 100, 49, 100}, {50, 100, 1, 2}, {51, 100, 1, 2}, {1, 2, 1, 2}, {49, 99, 49, 99},
            {50, 99, 1, 2}, {1, 1, 1, 2}, {100, 100, 1, 2}, {1, 100, 1, 100}, {2, 3, 1, 2}, {1, 3, 1, 3}};
        for (int[] will : wills) {
            Edge closed = TEN.after(x -> x.child(0, 1), x -> full(x, 0, 2, will[0], will[1]), x -> x.die(0));
            String what = will[0] + " by " + will[1];
            shareIs(closed, what, 2, will[2], will[3]);
            shareIs(closed, what, 1, will[3] - will[2], will[3]);
        }
    }

    @Says(promise = 0, words = "if the person has children who live")
    static void moreThanAHalf() {
        Edge dead = TEN.after(x -> x.child(0, 1), x -> full(x, 0, 2, 3, 4), x -> x.die(1), x -> x.die(0));
        shareIs(dead, "a child who is dead", 2, 3, 4);
        shareIs(dead, "a child who is dead", NONE, 1, 4);
        Edge one = TEN.after(x -> x.child(0, 1), x -> x.child(0, 3), x -> full(x, 0, 2, 3, 4), x -> x.die(1), x -> x.die(0));
        shareIs(one, "one of two who lives", 2, 1, 2);
        shareIs(one, "one of two who lives", 3, 1, 2);
        Edge grand = TEN.after(x -> x.child(0, 1), x -> x.child(1, 3), x -> full(x, 0, 2, 3, 4), x -> x.die(1), x -> x.die(0));
        shareIs(grand, "a child's child", 2, 3, 4);
        Edge parent = TEN.after(x -> x.child(0, 5), x -> Notary.sell(x, 0, 5, 0, 1, 1), x -> full(x, 5, 2, 3, 4), x -> x.die(5));
        shareIs(parent, "parents alone", 2, 3, 4);
        shareIs(parent, "parents alone", 0, 1, 4);
    }

    @Says(promise = 0, words = "What is left goes to the children who live, in equal parts")
    static void toTheChildren() {
        for (int children = 1; children <= 7; children++) {
            int count = children;
            Edge family = TEN.after(x -> {
                for (int i = 1; i <= count; i++) {
                    x.child(0, i);
                }
                return x.die(0);
            });
            shareIs(family, "the first of " + count, 1, 1, count);
            shareIs(family, "the last of " + count, count, 1, count);
            shareIs(family, "the crown beside " + count, NONE, 0, 1);
            shareIs(family, "who is none of " + count, 8, 0, 1);
        }
        Edge some = TEN.after(x -> x.child(0, 1), x -> x.child(0, 2), x -> x.child(0, 3), x -> x.die(2), x -> x.die(0));
        shareIs(some, "who lives", 1, 1, 2);
        shareIs(some, "who is dead", 2, 0, 1);
        Edge will = TEN.after(x -> x.child(0, 1), x -> x.child(0, 2), x -> full(x, 0, 1, 1, 4), x -> x.die(0));
        shareIs(will, "a quarter, and a half of the rest", 1, 5, 8);
        shareIs(will, "a half of the rest", 2, 3, 8);
        shareIs(elevenChildren(), "the eleventh child", 11, 1, 11);
    }

    private static Edge elevenChildren() {
        return new Edge(() -> {
            DeedProtocol x = Notary.withAdults(12);
            x.thing(0, 100);
            for (int i = 1; i < 12; i++) {
                x.child(0, i);
            }
            x.die(0);
            return x;
        });
    }

    @Says(promise = 0, words = "without such to the parents who live, in equal parts")
    static void toTheParents() {
        Edge two = TEN.after(x -> x.child(1, 4), x -> x.child(2, 4), x -> x.child(4, 5), x -> Notary.sell(x, 0, 4, 0, 1, 1));
        shareIs(two.after(x -> x.die(4)), "a child ahead of them", 5, 1, 1);
        shareIs(two.after(x -> x.die(4)), "a parent behind", 1, 0, 1);
        Edge alone = two.after(x -> x.die(5));
        shareIs(alone.after(x -> x.die(4)), "two", 1, 1, 2);
        shareIs(alone.after(x -> x.die(4)), "two", 2, 1, 2);
        shareIs(alone.after(x -> x.die(1), x -> x.die(4)), "one who lives", 2, 1, 1);
        shareIs(alone.after(x -> x.die(1), x -> x.die(4)), "one who is dead", 1, 0, 1);
        shareIs(alone.after(x -> full(x, 4, 6, 2, 3), x -> x.die(4)), "behind a will", 1, 1, 6);
        shareIs(alone.after(x -> full(x, 4, 1, 1, 2), x -> x.die(4)), "by a will and without", 1, 3, 4);
    }

    @Says(promise = 0, words = "without such to the crown")
    static void toTheCrown() {
        shareIs(TEN.after(x -> x.die(0)), "nobody at all", NONE, 1, 1);
        Edge child = TEN.after(x -> x.child(1, 4), x -> x.child(1, 5), x -> Notary.sell(x, 0, 4, 0, 1, 1), x -> x.die(1));
        shareIs(child.after(x -> x.die(4)), "a dead parent, a sibling", NONE, 1, 1);
        shareIs(child.after(x -> x.die(4)), "a sibling", 5, 0, 1);
        Edge parts = TEN.after(x -> Notary.sell(x, 0, 1, 0, 1, 3), x -> x.die(1));
        shareIs(parts, "a third", NONE, 1, 3);
        shareIs(parts.after(x -> x.die(0)), "all by and by", NONE, 1, 1);
    }

    @Says(promise = 0, words = "the crown has what no person has")
    static void theCrownHasTheRest() {
        shareIs(TEN, "at first", NONE, 0, 1);
        Edge parts = TEN.after(x -> Notary.sell(x, 0, 1, 0, 1, 3), x -> Notary.sell(x, 0, 2, 0, 1, 4), x -> x.die(1),
                x -> x.die(2));
        shareIs(parts, "a third and a quarter", NONE, 7, 12);
        shareIs(parts, "what is left to one", 0, 5, 12);
    }

    @Says(promise = 0, words = "Guardians who die are none any more.")
    static void guardiansWhoDie() {
        Edge wards = TEN.after(x -> x.guard(1, 0), x -> x.guard(2, 0), x -> x.guard(3, 4));
        wards.answers("with a guardian", 0, x -> Edge.bit(x.isAble(1)));
        for (int ward = 1; ward <= 2; ward++) {
            int one = ward;
            wards.answers("able then", 1, x -> x.die(0), x -> Edge.bit(x.isAble(one)));
            wards.answers("none any more", NONE, x -> x.die(0), x -> x.guard(one, 5));
        }
        wards.answers("another one's stays", 4, x -> x.die(0), x -> x.guard(3, NONE));
        wards.answers("another one's ward is not able still", 0, x -> x.die(0), x -> Edge.bit(x.isAble(3)));
        wards.answers("a ward who dies", 0, x -> x.die(1), x -> x.guard(2, 5));
        TEN.answers("the first one's", NONE, x -> x.guard(0, 9), x -> x.die(9), x -> x.guard(0, 1));
        TEN.answers("the last one's", NONE, x -> x.guard(9, 0), x -> x.die(0), x -> x.guard(9, 1));
    }

    // ---- die

    @Says(promise = 22, words = "Throws `IndexOutOfBoundsException` if there is no such person")
    static void nobodyDies() {
        TEN.answers("the first", 1, x -> x.die(0));
        TEN.answers("the last", 0, x -> x.die(9));
        TEN.refusesEach("person", INDEX, (x, person) -> x.die(person), NONE, 10, MIN, MAX);
        new Edge(() -> Notary.withEntries(100)).refusesEach("person, when there are 100 entries", INDEX,
                (x, person) -> x.die(person), NONE, 12);
    }

    @Says(promise = 22, words = "Throws `IllegalStateException` if it is dead, or there would be more than 100 entries")
    static void onlyOnce() {
        TEN.after(x -> x.die(0)).refuses("one who had a share", STATE, x -> x.die(0));
        TEN.after(x -> x.die(9)).refuses("one who had none", STATE, x -> x.die(9));
    }

    @Says(promise = 22, words = "there would be more than 100 entries")
    static void hundredEntries() {
        new Edge(() -> Notary.withEntries(92)).answers("8 behind 92", 8, x -> x.die(10));
        new Edge(() -> Notary.withEntries(92)).answers("100 then", 100, x -> x.die(10), x -> x.entries());
        Edge much = new Edge(() -> Notary.withEntries(93));
        much.refuses("8 behind 93", STATE, x -> x.die(10));
        much.answers("1 behind 93", 1, x -> x.die(11));
        Edge last = new Edge(() -> Notary.withEntries(99));
        last.answers("1 behind 99", 1, x -> x.die(11));
        last.refuses("8 behind 99", STATE, x -> x.die(10));
        Edge full = new Edge(() -> Notary.withEntries(100));
        full.refuses("1 behind 100", STATE, x -> x.die(11));
        full.refuses("8 behind 100", STATE, x -> x.die(10));
        full.refuses("a dead one", STATE, x -> x.die(0));
    }

    /** By the hundredth entry 11 sells all that it has. */
    @Says(promise = 22, words = "Returns how many entries are made by it.")
    static void noneBehindHundred() {
        Edge full = new Edge(() -> {
            DeedProtocol x = Notary.withEntries(99);
            Notary.sell(x, 11, 10, 0, 1, 2);
            Check.equal("entries", x.entries(), 100);
            return x;
        });
        full.answers("none behind 100", 0, x -> x.die(11));
        full.refuses("8 behind 100", STATE, x -> x.die(10));
    }

    // ---- 1000000 below

    private static Edge little(int first, int second, int third) {
        return TEN.after(x -> {
            Notary.leaveLittle(x, first, second, third);
            return 0;
        });
    }

    @Says(promise = 0, words = "also, where shares move, if one's share of a thing, in lowest terms, would have more than 1000000 below behind the call")
    static void theTakersShare() {
        Edge most = little(100, 100, 25).after(x -> full(x, 3, 4, 1, 4));
        most.answers("1000000 below", 1, x -> x.die(3));
        shareIs(most.after(x -> x.die(3)), "1000000 below", 4, 1, 1000000);
        little(89, 53, 53).after(x -> full(x, 3, 4, 1, 4)).refuses("1000004 below", STATE, x -> x.die(3));
        little(89, 53, 53).after(x -> full(x, 3, 4, 3, 4)).refuses("1000004 below, 3 of 4", STATE, x -> x.die(3));
        shareIs(little(89, 53, 53).after(x -> full(x, 3, 4, 1, 3), x -> x.die(3)), "750003 below", 4, 1, 750003);
        shareIs(little(89, 53, 53).after(x -> full(x, 3, 4, 1, 1), x -> x.die(3)), "all of it", 4, 1, 250001);
    }

    @Says(promise = 0, words = "also, where shares move, if one's share of a thing, in lowest terms, would have more than 1000000 below behind the call")
    static void theChildrensShares() {
        Edge four = TEN.after(x -> x.child(3, 4), x -> x.child(3, 5), x -> x.child(3, 6), x -> x.child(3, 7));
        Edge most = four.after(x -> leave(x, 100, 100, 25));
        shareIs(most.after(x -> x.die(3)), "1000000 below", 7, 1, 1000000);
        Edge more = four.after(x -> leave(x, 89, 53, 53));
        more.refuses("1000004 below", STATE, x -> x.die(3));
        shareIs(more.after(x -> x.die(4), x -> x.die(3)), "750003 below, of three who live", 7, 1, 750003);
    }

    private static long leave(DeedProtocol x, int first, int second, int third) {
        Notary.leaveLittle(x, first, second, third);
        return 0;
    }

    @Says(promise = 0, words = "also, where shares move, if one's share of a thing, in lowest terms, would have more than 1000000 below behind the call")
    static void theParentsShares() {
        Edge two = TEN.after(x -> x.child(4, 7), x -> x.child(5, 7));
        Edge most = two.after(x -> leave(x, 100, 100, 25), x -> full(x, 3, 7, 1, 2), x -> x.die(3));
        shareIs(most.after(x -> x.die(7)), "1000000 below", 5, 1, 1000000);
        Edge more = two.after(x -> leave(x, 89, 53, 53), x -> full(x, 3, 7, 1, 2), x -> x.die(3));
        more.refuses("1000004 below", STATE, x -> x.die(7));
        shareIs(more.after(x -> x.die(4), x -> x.die(7)), "500002 below, of one who lives", 5, 1, 500002);
    }

    @Says(promise = 0, words = "also, where shares move, if one's share of a thing, in lowest terms, would have more than 1000000 below behind the call")
    static void theCrownsShare() {
        Edge most = little(100, 100, 100).after(x -> Notary.sell(x, 0, 5, 0, 1, 4));
        shareIs(most, "ahead of it", NONE, 9999, 1000000);
        shareIs(most.after(x -> x.die(5)), "1000000 below", NONE, 259999, 1000000);
        Edge more = little(89, 53, 53).after(x -> Notary.sell(x, 0, 5, 0, 1, 4));
        shareIs(more, "ahead of it", NONE, 2808, 250001);
        more.refuses("1000004 below", STATE, x -> x.die(5));
        shareIs(more.after(x -> full(x, 5, 6, 1, 1), x -> x.die(5)), "nothing goes to it", NONE, 2808, 250001);
    }

    @Says(promise = 0, words = "in lowest terms, would have more than 1000000 below behind the call")
    static void behindTheCallAlone() {
        Edge child = TEN.after(x -> x.child(3, 4), x -> leave(x, 100, 100, 100), x -> full(x, 3, 4, 1, 3));
        shareIs(child.after(x -> x.die(3)), "a third, and the rest, of a millionth", 4, 1, 1000000);
        Edge half = TEN.after(x -> Notary.sell(x, 0, 3, 0, 1, 2), x -> leave(x, 100, 100, 100), x -> full(x, 3, 4, 1, 1));
        shareIs(half.after(x -> x.die(3)), "a half, and a millionth", 4, 500001, 1000000);
    }

    @Says(promise = 0, words = "a call that throws changes nothing")
    static void noneOfTheThingsMoves() {
        Edge first = TEN.after(x -> x.thing(3, 5), x -> leave(x, 89, 53, 53), x -> x.thing(3, 5),
                x -> full(x, 3, 4, 1, 4), x -> x.guard(5, 3));
        first.refuses("the first one would be too small", STATE, x -> x.die(3));
        Edge last = new Edge(() -> {
            DeedProtocol x = Notary.withAdults(10);
            x.thing(3, 5);
            x.thing(3, 5);
            x.thing(0, 5);
            x.guard(5, 3);
            Notary.sell(x, 0, 1, 2, 1, 89);
            Notary.closedWill(x, 1, 2, 1, 53);
            Notary.closedWill(x, 2, 3, 1, 53);
            x.die(1);
            x.die(2);
            Notary.closedWill(x, 3, 4, 1, 4);
            return x;
        });
        last.refuses("the last one would be too small", STATE, x -> x.die(3));
        last.answers("it lives still", 1, x -> Check.outcome(() -> x.die(3)), x -> Edge.bit(x.isAble(3)));
        last.answers("all that there is, when none is", 3, x -> Notary.closedWill(x, 3, 4, 1, 1), x -> x.die(3));
    }
}
