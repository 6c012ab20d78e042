import java.util.ArrayList;

/**
 * A notary's protocol: persons, deeds with their parts, powers in chains, papers, and a register
 * of things, whose shares are exact fractions.
 */
public final class DeedProtocol {
    public static final int NONE = -1;
    public static final int SALE = 0, GIFT = 1, PLEDGE = 2, POWER = 3, WILL = 4, DEATH = 5;
    public static final int GIVEN = 1, TAKEN = 2, READ = 4, WITNESSED = 8, TOLD = 16;
    public static final int DRAFTED = 0, FULL = 1, LESSER = 2, VOID = 3;

    private static final int MAX_PERSONS = 12;
    private static final int MAX_PARENTS = 2;
    private static final int MAX_AGE = 99;
    private static final int FULL_AGE = 18;
    private static final int DAYS_OF_A_YEAR = 360;
    private static final int MAX_DAYS_TO_PASS = 10000;

    private static final int MAX_THINGS = 8;
    private static final int MAX_VALUE = 1000000;

    private static final int MAX_DEEDS = 60;
    private static final int MAX_PART_BELOW = 100;
    private static final int NEEDED_WITNESSES = 2;
    private static final int MAX_POWER_DAYS = 1000;
    private static final int LESSER_POWER_DAYS = 30;
    private static final int MAX_PAPERS = 4;
    private static final int MAX_GRADE_TO_ENTER = 1;
    private static final int LAST_DEED_QUESTION = 5;

    private static final int MAX_ENTRIES = 100;
    private static final int LAST_ENTRY_QUESTION = 3;
    private static final int SALE_DIVISOR = 20;
    private static final int GIFT_DIVISOR = 10;
    private static final int FAMILY_GIFT_DIVISOR = 50;
    private static final int PLEDGE_DIVISOR = 100;

    // The crown holds shares under the number behind those of all persons.
    private static final int CROWN = MAX_PERSONS;
    private static final int HOLDERS = MAX_PERSONS + 1;
    private static final long MAX_SHARE_BELOW = 1000000;
    // Euclid's steps on two longs are fewer than a hundred.
    private static final int MAX_EUCLID_STEPS = 200;

    private final ArrayList<Person> persons = new ArrayList<>();
    private final ArrayList<Thing> things = new ArrayList<>();
    private final ArrayList<Deed> deeds = new ArrayList<>();
    private final ArrayList<Entry> register = new ArrayList<>();
    // Shares are tried here before they count; kept, so that no call makes rows anew.
    private final Shares trial = new Shares();
    private int today = 0;
    private int closedDeeds = 0;
    private long dutySum = 0;

    public DeedProtocol() {
    }

    // ---- persons, things

    public int person(int age, boolean isForeign) throws IllegalArgumentException, IllegalStateException {
        if (age < 0 || age > MAX_AGE) {
            throw new IllegalArgumentException("age is out of range");
        }
        if (persons.size() >= MAX_PERSONS) {
            throw new IllegalStateException("there are 12 persons");
        }
        Person told = new Person(persons.size(), age, today, isForeign);
        persons.add(told);
        return told.number;
    }

    public int child(int parent, int child)
            throws IndexOutOfBoundsException, IllegalArgumentException, IllegalStateException {
        Person older = personAt(parent);
        Person younger = personAt(child);
        if (child <= parent) {
            throw new IllegalArgumentException("the child was not told later");
        }
        if (younger.parentCount() >= MAX_PARENTS || younger.isChildOf(older)) {
            throw new IllegalStateException("the child has two parents, or this one");
        }
        refuseDead(older, younger);
        younger.addParent(older);
        return younger.parentCount();
    }

    public int guard(int person, int guardian)
            throws IndexOutOfBoundsException, IllegalArgumentException, IllegalStateException {
        Person ward = personAt(person);
        Person guarding = guardian == NONE ? null : personAt(guardian);
        if (person == guardian) {
            throw new IllegalArgumentException("nobody is its own guardian");
        }
        if (!ward.isAlive || guarding != null && !guarding.isAlive) {
            throw new IllegalStateException("one of both is dead");
        }
        Person before = ward.guardian;
        ward.guardian = guarding;
        return before == null ? NONE : before.number;
    }

    public int thing(int owner, int value)
            throws IndexOutOfBoundsException, IllegalArgumentException, IllegalStateException {
        Person first = personAt(owner);
        if (value < 1 || value > MAX_VALUE) {
            throw new IllegalArgumentException("value is out of range");
        }
        if (things.size() >= MAX_THINGS || !first.isAlive) {
            throw new IllegalStateException("there are 8 things, or the owner is dead");
        }
        Thing told = new Thing(things.size(), first.number, value);
        things.add(told);
        return told.number;
    }

    public boolean isAble(int person) throws IndexOutOfBoundsException {
        return personAt(person).isAbleOn(today);
    }

    // ---- deeds

    public int draft(int kind, int giver, int taker, int thing, int above, int below)
            throws IndexOutOfBoundsException, IllegalArgumentException, IllegalStateException {
        Person giving = personAt(giver);
        Person taking = personAt(taker);
        Thing moved = thingAt(thing);
        if (!isOfThing(kind) || !isPart(above, below) || giver == taker) {
            throw new IllegalArgumentException("kind or share is out of range, or both are the same");
        }
        refuseNewDeed(giving, taking);
        return keepDeed(new Deed(deeds.size(), kind, giving, taking, moved, above, below));
    }

    public int power(int giver, int taker, int thing, int days, boolean goesOn)
            throws IndexOutOfBoundsException, IllegalArgumentException, IllegalStateException {
        Person giving = personAt(giver);
        Person taking = personAt(taker);
        Thing scope = thing == NONE ? null : thingAt(thing);
        if (days < 1 || days > MAX_POWER_DAYS || giver == taker) {
            throw new IllegalArgumentException("days are out of range, or both are the same");
        }
        refuseNewDeed(giving, taking);
        Deed drafted = new Deed(deeds.size(), POWER, giving, taking, scope, 0, 1);
        drafted.mandate = new Mandate(today + days, goesOn);
        return keepDeed(drafted);
    }

    public int will(int giver, int taker, int above, int below)
            throws IndexOutOfBoundsException, IllegalArgumentException, IllegalStateException {
        Person giving = personAt(giver);
        Person taking = personAt(taker);
        if (!isPart(above, below) || giver == taker) {
            throw new IllegalArgumentException("the share is out of range, or both are the same");
        }
        refuseNewDeed(giving, taking);
        return keepDeed(new Deed(deeds.size(), WILL, giving, taking, null, above, below));
    }

    public int sign(int deed, int person, boolean isGiver, int power)
            throws IndexOutOfBoundsException, IllegalStateException {
        Deed signed = deedAt(deed);
        Person signer = personAt(person);
        Deed by = power == NONE ? null : deedAt(power);
        int part = isGiver ? GIVEN : TAKEN;
        refuseClosedOrHaving(signed, part);
        if (signsWithoutPower(signed, signer, isGiver)) {
            signed.parts |= part;
        } else if (signsByPower(signed, signer, isGiver, by)) {
            signed.parts |= part;
            if (isGiver && signed.mandate != null) {
                signed.mandate.source = by;
            }
        } else {
            throw new IllegalStateException("that one cannot sign it so");
        }
        return signed.parts;
    }

    public int add(int deed, int part)
            throws IndexOutOfBoundsException, IllegalArgumentException, IllegalStateException {
        Deed changed = deedAt(deed);
        if (part != READ && part != TOLD) {
            throw new IllegalArgumentException("the part is neither READ nor TOLD");
        }
        refuseClosedOrHaving(changed, part);
        changed.parts |= part;
        return changed.parts;
    }

    public int witness(int deed, int person) throws IndexOutOfBoundsException, IllegalStateException {
        Deed watched = deedAt(deed);
        Person watching = personAt(person);
        if (watched.isClosed() || watched.hasWitness(watching)) {
            throw new IllegalStateException("the deed is closed, or has this witness");
        }
        if (!canWitness(watched, watching)) {
            throw new IllegalStateException("that one cannot be a witness");
        }
        watched.addWitness(watching);
        return watched.parts;
    }

    public int close(int deed) throws IndexOutOfBoundsException, IllegalStateException {
        Deed closing = deedAt(deed);
        if (closing.isClosed()) {
            throw new IllegalStateException("the deed is closed");
        }
        refuseDead(closing.giver, closing.taker);
        closedDeeds++;
        closing.protocolNumber = closedDeeds;
        closing.closingDay = today;
        closing.state = stateByParts(closing);
        closing.papers.append(0);
        return closing.state;
    }

    public int deed(int deed, int what) throws IndexOutOfBoundsException, IllegalArgumentException {
        Deed asked = deedAt(deed);
        if (what < 0 || what > LAST_DEED_QUESTION) {
            throw new IllegalArgumentException("there is no such question");
        }
        switch (what) {
            case 0: return asked.state;
            case 1: return asked.kind;
            case 2: return asked.parts;
            case 3: return asked.protocolNumber;
            case 4: return asked.closingDay;
            default: return asked.entryNumber;
        }
    }

    public char label(int deed, int place) throws IndexOutOfBoundsException {
        Deed asked = deedAt(deed);
        if (place < 0) {
            throw new IndexOutOfBoundsException("place is below 0");
        }
        StringBuilder text = new StringBuilder();
        text.append(kindLetter(asked.kind));
        text.append(asked.protocolNumber);
        if (asked.isClosed()) {
            text.append(',');
            text.append(stateLetter(asked.state));
        }
        return place < text.length() ? text.charAt(place) : '.';
    }

    // ---- powers

    public boolean revoke(int power, boolean isTold) throws IndexOutOfBoundsException, IllegalStateException {
        Deed revoked = deedAt(power);
        Mandate mandate = revoked.mandate;
        if (mandate == null || !revoked.isClosed()) {
            throw new IllegalStateException("this is no closed POWER");
        }
        boolean wasRevoked = mandate.isRevoked;
        mandate.isRevoked = true;
        // What the taker knows once, it goes on to know.
        mandate.isRevocationKnown = mandate.isRevocationKnown || isTold;
        return wasRevoked;
    }

    public boolean isGood(int power) throws IndexOutOfBoundsException {
        return isGoodPower(deedAt(power));
    }

    // ---- papers

    public int copy(int deed) throws IndexOutOfBoundsException, IllegalStateException {
        Papers papers = deedAt(deed).papers;
        if (papers.count == 0 || papers.count >= MAX_PAPERS) {
            throw new IllegalStateException("there is no paper to copy, or there are 4");
        }
        int grade = papers.leastGrade() + 1;
        papers.append(grade);
        return grade;
    }

    public int lose(int deed) throws IndexOutOfBoundsException, IllegalStateException {
        Papers papers = deedAt(deed).papers;
        if (papers.count == 0) {
            throw new IllegalStateException("there is no paper");
        }
        papers.dropFirst();
        return papers.leastGrade();
    }

    public int proof(int deed) throws IndexOutOfBoundsException {
        return deedAt(deed).papers.leastGrade();
    }

    // ---- the register

    public int enter(int deed) throws IndexOutOfBoundsException, IllegalStateException {
        Deed entered = deedAt(deed);
        Thing thing = entered.thing;
        if (thing == null || register.size() >= MAX_ENTRIES || !isReadyToEnter(entered)) {
            throw new IllegalStateException("it cannot be entered, or there are 100 entries");
        }
        Move move = moveOf(entered);
        if (!thing.shares.has(entered.giver.number, entered.above, entered.below) || !leavesSmallShares(thing, move)) {
            throw new IllegalStateException("the giver has too small a share, or a share has too much below");
        }
        entered.entryNumber = register.size();
        dutySum += dutyOf(entered, thing);
        keepEntry(new Entry(entered.kind, entered.number, thing, today, move));
        return entered.entryNumber;
    }

    public int die(int person) throws IndexOutOfBoundsException, IllegalStateException {
        Person dying = personAt(person);
        if (!dying.isAlive) {
            throw new IllegalStateException("that one is dead");
        }
        Move move = successionOf(dying);
        int made = countEstateThings(dying, move);
        if (register.size() + made > MAX_ENTRIES) {
            throw new IllegalStateException("there would be more than 100 entries");
        }
        dying.isAlive = false;
        endGuardianships(dying);
        for (int i = 0; i < things.size(); i++) {
            Thing thing = things.get(i);
            if (!thing.shares.isEmptyOf(dying.number)) {
                keepEntry(new Entry(DEATH, dying.number, thing, today, move));
            }
        }
        return made;
    }

    public int entry(int entry, int what) throws IndexOutOfBoundsException, IllegalArgumentException {
        if (entry < 0 || entry >= register.size()) {
            throw new IndexOutOfBoundsException("there is no such entry");
        }
        if (what < 0 || what > LAST_ENTRY_QUESTION) {
            throw new IllegalArgumentException("there is no such question");
        }
        Entry asked = register.get(entry);
        switch (what) {
            case 0: return asked.kind;
            case 1: return asked.about;
            case 2: return asked.thing.number;
            default: return asked.day;
        }
    }

    public int entries() {
        return register.size();
    }

    public int search(int thing, int from, int to) throws IndexOutOfBoundsException, IllegalArgumentException {
        Thing searched = thingAt(thing);
        if (from < 0 || to < from) {
            throw new IllegalArgumentException("from or to is out of range");
        }
        int found = 0;
        for (int i = from; i <= to && i < register.size(); i++) {
            if (register.get(i).thing == searched) {
                found++;
            }
        }
        return found;
    }

    public int pledge(int thing, int rank) throws IndexOutOfBoundsException {
        Thing pledged = thingAt(thing);
        if (rank < 0) {
            throw new IndexOutOfBoundsException("rank is below 0");
        }
        int before = 0;
        for (int i = 0; i < register.size(); i++) {
            Entry entry = register.get(i);
            if (entry.kind == PLEDGE && entry.thing == pledged) {
                if (before == rank) {
                    return entry.about;
                }
                before++;
            }
        }
        return NONE;
    }

    public int share(int thing, int person, boolean isBelow) throws IndexOutOfBoundsException {
        Thing asked = thingAt(thing);
        return asked.shares.termOf(holderAt(person), isBelow);
    }

    public int shareAnew(int thing, int person, boolean isBelow) throws IndexOutOfBoundsException {
        Thing asked = thingAt(thing);
        int holder = holderAt(person);
        trial.startWith(asked.firstOwner);
        for (int i = 0; i < register.size(); i++) {
            Entry entry = register.get(i);
            if (entry.thing == asked) {
                trial.carryOut(entry.move);
            }
        }
        return trial.termOf(holder, isBelow);
    }

    public long duties() {
        return dutySum;
    }

    public int pass(int days) throws IllegalArgumentException {
        if (days < 1 || days > MAX_DAYS_TO_PASS) {
            throw new IllegalArgumentException("days are out of range");
        }
        today += days;
        return today;
    }

    // ---- what the calls ask for by number

    private Person personAt(int number) {
        if (number < 0 || number >= persons.size()) {
            throw new IndexOutOfBoundsException("there is no such person");
        }
        return persons.get(number);
    }

    private Thing thingAt(int number) {
        if (number < 0 || number >= things.size()) {
            throw new IndexOutOfBoundsException("there is no such thing");
        }
        return things.get(number);
    }

    private Deed deedAt(int number) {
        if (number < 0 || number >= deeds.size()) {
            throw new IndexOutOfBoundsException("there is no such deed");
        }
        return deeds.get(number);
    }

    private int holderAt(int person) {
        return person == NONE ? CROWN : personAt(person).number;
    }

    // ---- what the calls refuse

    private static void refuseDead(Person one, Person other) {
        if (!one.isAlive || !other.isAlive) {
            throw new IllegalStateException("one of both is dead");
        }
    }

    private void refuseNewDeed(Person giver, Person taker) {
        if (deeds.size() >= MAX_DEEDS) {
            throw new IllegalStateException("there are 60 deeds");
        }
        refuseDead(giver, taker);
    }

    private static void refuseClosedOrHaving(Deed deed, int part) {
        if (deed.isClosed() || deed.hasAll(part)) {
            throw new IllegalStateException("the deed is closed, or has this part");
        }
    }

    // ---- how deeds come about

    private static boolean isOfThing(int kind) {
        return kind == SALE || kind == GIFT || kind == PLEDGE;
    }

    private static boolean isPart(int above, int below) {
        return above >= 1 && above <= below && below <= MAX_PART_BELOW;
    }

    private int keepDeed(Deed drafted) {
        deeds.add(drafted);
        return drafted.number;
    }

    private boolean signsWithoutPower(Deed deed, Person signer, boolean isGiver) {
        if (deed.kind == WILL && !isGiver || !signer.isAbleOn(today)) {
            return false;
        }
        Person one = deed.side(isGiver);
        return signer == one || signsAsGuardian(deed, signer, isGiver);
    }

    private boolean signsAsGuardian(Deed deed, Person signer, boolean isGiver) {
        Person one = deed.side(isGiver);
        return deed.kind != WILL && one.isAlive && one.guardian == signer && signer != deed.side(!isGiver);
    }

    private boolean signsByPower(Deed deed, Person signer, boolean isGiver, Deed power) {
        if (power == null || deed.kind == WILL || signer == deed.side(!isGiver)) {
            return false;
        }
        return signer.isAbleOn(today)
                && power.giver == deed.side(isGiver)
                && power.taker == signer
                && (power.thing == null || power.thing == deed.thing)
                && isGoodPower(power);
    }

    private boolean canWitness(Deed deed, Person person) {
        return person.isAbleOn(today)
                && person != deed.giver
                && person != deed.taker
                && !areParentAndChild(person, deed.giver)
                && !areParentAndChild(person, deed.taker);
    }

    private static boolean areParentAndChild(Person one, Person other) {
        return one.isChildOf(other) || other.isChildOf(one);
    }

    private static int stateByParts(Deed deed) {
        if (deed.hasAll(neededParts(deed))) {
            return FULL;
        }
        int leastParts = isOfThing(deed.kind) ? GIVEN | TAKEN : GIVEN;
        return deed.hasAll(leastParts) ? LESSER : VOID;
    }

    private static int neededParts(Deed deed) {
        boolean isOfThing = isOfThing(deed.kind);
        int needed = GIVEN | READ;
        if (isOfThing) {
            needed |= TAKEN;
        }
        if (deed.kind == GIFT || deed.kind == WILL) {
            needed |= WITNESSED;
        }
        if (deed.giver.isForeign || isOfThing && deed.taker.isForeign) {
            needed |= TOLD;
        }
        return needed;
    }

    private static char kindLetter(int kind) {
        switch (kind) {
            case SALE: return 'S';
            case GIFT: return 'G';
            case PLEDGE: return 'P';
            case POWER: return 'A';
            default: return 'W';
        }
    }

    private static char stateLetter(int state) {
        switch (state) {
            case FULL: return 'f';
            case LESSER: return 'l';
            default: return 'v';
        }
    }

    /** Follows the chain of powers: each was closed before the one signed by it, so it has an end. */
    private boolean isGoodPower(Deed power) {
        Deed link = power;
        for (int i = 0; i < MAX_DEEDS; i++) {
            if (link.mandate == null || !isGoodByItself(link, link.mandate)) {
                return false;
            }
            Deed source = link.mandate.source;
            if (source == null) {
                return true;
            }
            if (source.mandate == null || !source.mandate.goesOn) {
                return false;
            }
            link = source;
        }
        return false;
    }

    private boolean isGoodByItself(Deed power, Mandate mandate) {
        int lastDay = mandate.lastDay;
        if (power.state == LESSER) {
            lastDay = Math.min(lastDay, power.closingDay + LESSER_POWER_DAYS);
        }
        return (power.state == FULL || power.state == LESSER)
                && today <= lastDay
                && !mandate.isRevocationKnown
                && power.giver.isAlive;
    }

    // ---- how shares move

    private static boolean isReadyToEnter(Deed deed) {
        int grade = deed.papers.leastGrade();
        return isOfThing(deed.kind)
                && deed.state == FULL
                && deed.entryNumber == NONE
                && grade != NONE
                && grade <= MAX_GRADE_TO_ENTER
                && deed.giver.isAlive
                && deed.taker.isAlive;
    }

    /** Returns null for a PLEDGE, which moves nothing. */
    private static Move moveOf(Deed deed) {
        if (deed.kind == PLEDGE) {
            return null;
        }
        return new Move(deed.giver.number, deed.taker.number, deed.above, deed.below, 0);
    }

    private boolean leavesSmallShares(Thing thing, Move move) {
        trial.copyFrom(thing.shares);
        trial.carryOut(move);
        return trial.areSmall();
    }

    private void keepEntry(Entry made) {
        made.thing.shares.carryOut(made.move);
        register.add(made);
    }

    private static long dutyOf(Deed deed, Thing thing) {
        if (deed.below < 1) {
            return 0;
        }
        long worth = (long) thing.value * deed.above / deed.below;
        switch (deed.kind) {
            case SALE: return worth / SALE_DIVISOR;
            case GIFT: return worth / (areParentAndChild(deed.giver, deed.taker) ? FAMILY_GIFT_DIVISOR : GIFT_DIVISOR);
            default: return worth / PLEDGE_DIVISOR;
        }
    }

    /** Returns how many things one leaves a share of, and refuses a death that splits one too far. */
    private int countEstateThings(Person dying, Move move) {
        int count = 0;
        for (int i = 0; i < things.size(); i++) {
            Thing thing = things.get(i);
            if (!thing.shares.isEmptyOf(dying.number)) {
                count++;
                if (!leavesSmallShares(thing, move)) {
                    throw new IllegalStateException("a share would have too much below");
                }
            }
        }
        return count;
    }

    private void endGuardianships(Person dead) {
        for (int i = 0; i < persons.size(); i++) {
            Person ward = persons.get(i);
            if (ward.guardian == dead) {
                ward.guardian = null;
            }
        }
    }

    private Move successionOf(Person dying) {
        int children = livingChildren(dying);
        Deed will = countingWill(dying);
        if (will == null) {
            return new Move(dying.number, NONE, 0, 1, heirsOf(dying, children));
        }
        int above = will.above;
        int below = will.below;
        if (children != 0 && 2 * above > below) {
            above = 1;
            below = 2;
        }
        return new Move(dying.number, will.taker.number, above, below, heirsOf(dying, children));
    }

    private int heirsOf(Person dying, int children) {
        if (children != 0) {
            return children;
        }
        int parents = livingParents(dying);
        return parents != 0 ? parents : 1 << CROWN;
    }

    private int livingChildren(Person parent) {
        int found = 0;
        for (int i = 0; i < persons.size(); i++) {
            Person person = persons.get(i);
            if (person.isAlive && person.isChildOf(parent)) {
                found |= 1 << person.number;
            }
        }
        return found;
    }

    private int livingParents(Person child) {
        int found = 0;
        for (int i = 0; i < persons.size(); i++) {
            Person person = persons.get(i);
            if (person.isAlive && child.isChildOf(person)) {
                found |= 1 << person.number;
            }
        }
        return found;
    }

    private Deed countingWill(Person dying) {
        Deed best = null;
        for (int i = 0; i < deeds.size(); i++) {
            Deed deed = deeds.get(i);
            if (isStandingWillOf(deed, dying) && (best == null || goesBefore(deed, best))) {
                best = deed;
            }
        }
        return best;
    }

    private static boolean isStandingWillOf(Deed deed, Person dying) {
        return deed.kind == WILL
                && deed.giver == dying
                && deed.taker.isAlive
                && (deed.state == FULL || deed.state == LESSER);
    }

    private static boolean goesBefore(Deed will, Deed other) {
        if (will.state != other.state) {
            return will.state == FULL;
        }
        return will.protocolNumber > other.protocolNumber;
    }

    private static final class Person {
        private final int number;
        private final int ageWhenTold;
        private final int dayTold;
        private final boolean isForeign;
        private boolean isAlive = true;
        private Person guardian = null;
        // A set of persons, by their numbers as bits.
        private int parents = 0;

        private Person(int number, int age, int day, boolean isForeign) {
            this.number = number;
            this.ageWhenTold = age;
            this.dayTold = day;
            this.isForeign = isForeign;
        }

        private boolean isAbleOn(int day) {
            int age = ageWhenTold + (day - dayTold) / DAYS_OF_A_YEAR;
            return isAlive && age >= FULL_AGE && guardian == null;
        }

        private boolean isChildOf(Person other) {
            return (parents & 1 << other.number) != 0;
        }

        private int parentCount() {
            return Integer.bitCount(parents);
        }

        private void addParent(Person parent) {
            parents |= 1 << parent.number;
        }
    }

    private static final class Thing {
        private final int number;
        private final int firstOwner;
        private final int value;
        private final Shares shares = new Shares();

        private Thing(int number, int firstOwner, int value) {
            this.number = number;
            this.firstOwner = firstOwner;
            this.value = value;
            this.shares.startWith(firstOwner);
        }
    }

    private static final class Deed {
        private final int number;
        private final int kind;
        private final Person giver;
        private final Person taker;
        // Null of a WILL, and of a POWER for all things and none.
        private final Thing thing;
        private final int above;
        private final int below;
        private final Papers papers = new Papers();
        // Null but of a POWER.
        private Mandate mandate = null;
        private int parts = 0;
        // A set of persons, by their numbers as bits.
        private int witnesses = 0;
        private int state = DRAFTED;
        private int protocolNumber = 0;
        private int closingDay = NONE;
        private int entryNumber = NONE;

        private Deed(int number, int kind, Person giver, Person taker, Thing thing, int above, int below) {
            this.number = number;
            this.kind = kind;
            this.giver = giver;
            this.taker = taker;
            this.thing = thing;
            this.above = above;
            this.below = below;
        }

        private boolean isClosed() {
            return state != DRAFTED;
        }

        private boolean hasAll(int asked) {
            return (parts & asked) == asked;
        }

        private Person side(boolean isGiver) {
            return isGiver ? giver : taker;
        }

        private boolean hasWitness(Person person) {
            return (witnesses & 1 << person.number) != 0;
        }

        private void addWitness(Person person) {
            witnesses |= 1 << person.number;
            if (Integer.bitCount(witnesses) >= NEEDED_WITNESSES) {
                parts |= WITNESSED;
            }
        }
    }

    /** What a POWER has beyond other deeds. */
    private static final class Mandate {
        private final int lastDay;
        private final boolean goesOn;
        private boolean isRevoked = false;
        private boolean isRevocationKnown = false;
        // The power by which it was signed for its giver, or null.
        private Deed source = null;

        private Mandate(int lastDay, boolean goesOn) {
            this.lastDay = lastDay;
            this.goesOn = goesOn;
        }
    }

    /** The grades of the papers of a deed, rising. */
    private static final class Papers {
        private final int[] grades = new int[MAX_PAPERS];
        private int count = 0;

        private int leastGrade() {
            return count == 0 ? NONE : grades[0];
        }

        /** Keeps the order: a new paper's grade is the least one's next, and none there is greater. */
        private void append(int grade) {
            if (count < grades.length) {
                grades[count] = grade;
                count++;
            }
        }

        private void dropFirst() {
            for (int i = 1; i < count && i < grades.length; i++) {
                grades[i - 1] = grades[i];
            }
            if (count > 0) {
                count--;
            }
        }
    }

    private static final class Entry {
        private final int kind;
        // The number of the deed, or, of a DEATH, of the person.
        private final int about;
        private final Thing thing;
        private final int day;
        // Null of a PLEDGE.
        private final Move move;

        private Entry(int kind, int about, Thing thing, int day, Move move) {
            this.kind = kind;
            this.about = about;
            this.thing = thing;
            this.day = day;
            this.move = move;
        }
    }

    /**
     * How a share passes on, as it was settled when it was entered. Without heirs, above by below
     * of the whole goes from giver to taker; with heirs, all that the giver has goes: above by below
     * of it to the taker, if there is one, and what is left to the heirs, in equal parts.
     */
    private static final class Move {
        private final int giver;
        private final int taker;
        private final int above;
        private final int below;
        // A set of holders, by their numbers as bits.
        private final int heirs;

        private Move(int giver, int taker, int above, int below, int heirs) {
            this.giver = giver;
            this.taker = taker;
            this.above = above;
            this.below = below;
            this.heirs = heirs;
        }
    }

    /**
     * The shares of one thing by holder, each in lowest terms. No sum overflows: a share has at most
     * 1000000 below ahead of a call, and a move brings at most 1000000 * 100 * 12 below to it.
     */
    private static final class Shares {
        private final long[] above = new long[HOLDERS];
        private final long[] below = new long[HOLDERS];

        private static boolean isHolder(int holder) {
            return holder >= 0 && holder < HOLDERS;
        }

        private void startWith(int owner) {
            for (int i = 0; i < HOLDERS; i++) {
                above[i] = i == owner ? 1 : 0;
                below[i] = 1;
            }
        }

        private void copyFrom(Shares other) {
            for (int i = 0; i < HOLDERS; i++) {
                above[i] = other.above[i];
                below[i] = other.below[i];
            }
        }

        private boolean isEmptyOf(int holder) {
            return !isHolder(holder) || above[holder] == 0;
        }

        private boolean has(int holder, int partAbove, int partBelow) {
            return isHolder(holder) && above[holder] * partBelow >= partAbove * below[holder];
        }

        private boolean areSmall() {
            for (int i = 0; i < HOLDERS; i++) {
                if (below[i] > MAX_SHARE_BELOW) {
                    return false;
                }
            }
            return true;
        }

        private int termOf(int holder, boolean isBelow) {
            if (!isHolder(holder)) {
                return isBelow ? 1 : 0;
            }
            return (int) (isBelow ? below[holder] : above[holder]);
        }

        private void carryOut(Move move) {
            if (move == null) {
                return;
            }
            if (move.heirs == 0) {
                change(move.giver, -move.above, move.below);
                change(move.taker, move.above, move.below);
            } else if (isHolder(move.giver)) {
                bequeath(move, above[move.giver], below[move.giver]);
            }
        }

        private void bequeath(Move move, long estateAbove, long estateBelow) {
            change(move.giver, -estateAbove, estateBelow);
            change(move.taker, estateAbove * move.above, estateBelow * move.below);
            long partAbove = estateAbove * (move.below - move.above);
            long partBelow = estateBelow * move.below * Integer.bitCount(move.heirs);
            for (int i = 0; i < HOLDERS; i++) {
                if ((move.heirs & 1 << i) != 0) {
                    change(i, partAbove, partBelow);
                }
            }
        }

        /** Adds a part to one's share, or takes it off if it is below 0; for NONE there is no share. */
        private void change(int holder, long partAbove, long partBelow) {
            if (!isHolder(holder)) {
                return;
            }
            long common = commonDivisor(below[holder], partBelow);
            long sumAbove = above[holder] * (partBelow / common) + partAbove * (below[holder] / common);
            long sumBelow = below[holder] / common * partBelow;
            long shortening = commonDivisor(sumAbove, sumBelow);
            above[holder] = sumAbove / shortening;
            below[holder] = sumBelow / shortening;
        }

        /** Returns 1 at least, so that all can be divided by it. */
        private static long commonDivisor(long one, long other) {
            long greater = one;
            long lesser = other;
            for (int i = 0; i < MAX_EUCLID_STEPS && lesser != 0; i++) {
                long rest = greater % lesser;
                greater = lesser;
                lesser = rest;
            }
            return greater < 1 ? 1 : greater;
        }
    }
}
