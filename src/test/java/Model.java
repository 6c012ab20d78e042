import java.math.BigInteger;
import java.util.ArrayList;
import java.util.Arrays;
import java.util.HashSet;
import java.util.List;
import java.util.Set;

/**
 * The document a second time, written without a look at the class, with the Java library and no
 * care for speed. A refusal is told by its sign: {@link #INDEX}, {@link #ARGUMENT}, {@link #STATE}.
 */
final class Model {
    static final long INDEX = -101;
    static final long ARGUMENT = -102;
    static final long STATE = -103;
    static final int CROWN = 12;
    private static final BigInteger BOUND = BigInteger.valueOf(1000000);

    static final class Fraction {
        static final Fraction ZERO = new Fraction(BigInteger.ZERO, BigInteger.ONE);
        static final Fraction ONE = new Fraction(BigInteger.ONE, BigInteger.ONE);
        final BigInteger above;
        final BigInteger below;

        Fraction(BigInteger above, BigInteger below) {
            BigInteger common = above.gcd(below);
            this.above = above.divide(common);
            this.below = below.divide(common);
        }

        static Fraction of(long above, long below) {
            return new Fraction(BigInteger.valueOf(above), BigInteger.valueOf(below));
        }

        Fraction plus(Fraction other) {
            return new Fraction(above.multiply(other.below).add(other.above.multiply(below)),
                    below.multiply(other.below));
        }

        Fraction minus(Fraction other) {
            return plus(new Fraction(other.above.negate(), other.below));
        }

        Fraction times(Fraction other) {
            return new Fraction(above.multiply(other.above), below.multiply(other.below));
        }

        boolean isLess(Fraction other) {
            return minus(other).above.signum() < 0;
        }
    }

    static final class Someone {
        int birthday;
        boolean foreign;
        boolean alive = true;
        int guardian = -1;
        final Set<Integer> parents = new HashSet<>();
    }

    static final class Paper {
        int kind;
        int giver;
        int taker;
        int thing;
        Fraction part = Fraction.ZERO;
        int partAbove;
        int partBelow;
        int until;
        boolean goesOn;
        int parts;
        final Set<Integer> witnesses = new HashSet<>();
        int state;
        int number;
        int closed = -1;
        int entry = -1;
        final List<Integer> grades = new ArrayList<>();
        int by = -1;
        boolean revoked;
        boolean known;
    }

    final List<Someone> people = new ArrayList<>();
    final List<Paper> papers = new ArrayList<>();
    final List<Integer> values = new ArrayList<>();
    final List<Fraction[]> shares = new ArrayList<>();
    final List<int[]> entries = new ArrayList<>();
    int day;
    int numbers;
    long duties;

    private boolean isNo(List<?> list, int index) {
        return index < 0 || index >= list.size();
    }

    private boolean dead(int person) {
        return !people.get(person).alive;
    }

    private boolean able(int person) {
        Someone one = people.get(person);
        return one.alive && one.guardian == -1 && Math.floorDiv(day - one.birthday, 360) >= 18;
    }

    private boolean isChild(int child, int parent) {
        return people.get(child).parents.contains(parent);
    }

    private boolean family(int one, int other) {
        return isChild(one, other) || isChild(other, one);
    }

    long person(int age, boolean foreign) {
        if (age < 0 || age > 99) return ARGUMENT;
        if (people.size() == 12) return STATE;
        Someone one = new Someone();
        one.birthday = day - age * 360;
        one.foreign = foreign;
        people.add(one);
        return people.size() - 1;
    }

    long child(int parent, int child) {
        if (isNo(people, parent) || isNo(people, child)) return INDEX;
        if (child <= parent) return ARGUMENT;
        Set<Integer> parents = people.get(child).parents;
        if (parents.size() == 2 || parents.contains(parent) || dead(parent) || dead(child)) return STATE;
        parents.add(parent);
        return parents.size();
    }

    long guard(int person, int guardian) {
        if (isNo(people, person) || guardian != -1 && isNo(people, guardian)) return INDEX;
        if (person == guardian) return ARGUMENT;
        if (dead(person) || guardian != -1 && dead(guardian)) return STATE;
        long before = people.get(person).guardian;
        people.get(person).guardian = guardian;
        return before;
    }

    long thing(int owner, int value) {
        if (isNo(people, owner)) return INDEX;
        if (value < 1 || value > 1000000) return ARGUMENT;
        if (values.size() == 8 || dead(owner)) return STATE;
        Fraction[] row = new Fraction[13];
        Arrays.fill(row, Fraction.ZERO);
        row[owner] = Fraction.ONE;
        shares.add(row);
        values.add(value);
        return values.size() - 1;
    }

    long isAble(int person) {
        return isNo(people, person) ? INDEX : able(person) ? 1 : 0;
    }

    private long newPaper(Paper paper) {
        if (papers.size() == 60 || dead(paper.giver) || dead(paper.taker)) return STATE;
        papers.add(paper);
        return papers.size() - 1;
    }

    private Paper paper(int kind, int giver, int taker, int thing) {
        Paper paper = new Paper();
        paper.kind = kind;
        paper.giver = giver;
        paper.taker = taker;
        paper.thing = thing;
        return paper;
    }

    private boolean isNoPart(int above, int below) {
        return above < 1 || above > 100 || below < above || below > 100;
    }

    long draft(int kind, int giver, int taker, int thing, int above, int below) {
        if (isNo(people, giver) || isNo(people, taker) || isNo(values, thing)) return INDEX;
        if (kind < 0 || kind > 2 || isNoPart(above, below) || giver == taker) return ARGUMENT;
        Paper paper = paper(kind, giver, taker, thing);
        setPart(paper, above, below);
        return newPaper(paper);
    }

    private void setPart(Paper paper, int above, int below) {
        paper.part = Fraction.of(above, below);
        paper.partAbove = above;
        paper.partBelow = below;
    }

    long power(int giver, int taker, int thing, int days, boolean goesOn) {
        if (isNo(people, giver) || isNo(people, taker) || thing != -1 && isNo(values, thing)) return INDEX;
        if (days < 1 || days > 1000 || giver == taker) return ARGUMENT;
        Paper paper = paper(3, giver, taker, thing);
        paper.until = day + days;
        paper.goesOn = goesOn;
        return newPaper(paper);
    }

    long will(int giver, int taker, int above, int below) {
        if (isNo(people, giver) || isNo(people, taker)) return INDEX;
        if (isNoPart(above, below) || giver == taker) return ARGUMENT;
        Paper paper = paper(4, giver, taker, -1);
        setPart(paper, above, below);
        return newPaper(paper);
    }

    private boolean good(int power) {
        Paper paper = papers.get(power);
        if (paper.kind != 3 || paper.state != 1 && paper.state != 2) return false;
        if (day > paper.until || paper.state == 2 && day > paper.closed + 30) return false;
        if (paper.revoked && paper.known || dead(paper.giver)) return false;
        return paper.by == -1 || papers.get(paper.by).goesOn && good(paper.by);
    }

    long sign(int deed, int person, boolean isGiver, int power) {
        if (isNo(papers, deed) || isNo(people, person) || power != -1 && isNo(papers, power)) return INDEX;
        Paper paper = papers.get(deed);
        int part = isGiver ? 1 : 2;
        int one = isGiver ? paper.giver : paper.taker;
        int other = isGiver ? paper.taker : paper.giver;
        if (paper.state != 0 || (paper.parts & part) != 0 || dead(one) || !able(person)) return STATE;
        if (paper.kind == 4 && (!isGiver || person != one)) return STATE;
        if (person != one) {
            if (person == other) return STATE;
            boolean isGuardian = people.get(one).guardian == person;
            if (!isGuardian) {
                if (power == -1) return STATE;
                Paper mine = papers.get(power);
                if (mine.giver != one || mine.taker != person || !good(power)) return STATE;
                if (mine.thing != -1 && mine.thing != paper.thing) return STATE;
                if (isGiver) paper.by = power;
            }
        }
        return paper.parts |= part;
    }

    long add(int deed, int part) {
        if (isNo(papers, deed)) return INDEX;
        if (part != 4 && part != 16) return ARGUMENT;
        Paper paper = papers.get(deed);
        if (paper.state != 0 || (paper.parts & part) != 0) return STATE;
        return paper.parts |= part;
    }

    long witness(int deed, int person) {
        if (isNo(papers, deed) || isNo(people, person)) return INDEX;
        Paper paper = papers.get(deed);
        if (paper.state != 0 || paper.witnesses.contains(person) || !able(person)) return STATE;
        for (int side : new int[] {paper.giver, paper.taker}) {
            if (side == person || family(side, person)) return STATE;
        }
        paper.witnesses.add(person);
        return paper.parts |= paper.witnesses.size() > 1 ? 8 : 0;
    }

    long close(int deed) {
        if (isNo(papers, deed)) return INDEX;
        Paper paper = papers.get(deed);
        if (paper.state != 0 || dead(paper.giver) || dead(paper.taker)) return STATE;
        Set<Integer> lacking = new HashSet<>(Arrays.asList(1, 4));
        if (paper.kind < 3) lacking.add(2);
        if (paper.kind == 1 || paper.kind == 4) lacking.add(8);
        if (people.get(paper.giver).foreign) lacking.add(16);
        if (paper.kind < 3 && people.get(paper.taker).foreign) lacking.add(16);
        lacking.removeIf(part -> (paper.parts & part) != 0);
        boolean isLesser = (paper.parts & 1) != 0 && (paper.kind >= 3 || (paper.parts & 2) != 0);
        paper.state = lacking.isEmpty() ? 1 : isLesser ? 2 : 3;
        paper.number = ++numbers;
        paper.closed = day;
        paper.grades.add(0);
        return paper.state;
    }

    long deed(int deed, int what) {
        if (isNo(papers, deed)) return INDEX;
        if (what < 0 || what > 5) return ARGUMENT;
        Paper paper = papers.get(deed);
        return new int[] {paper.state, paper.kind, paper.parts, paper.number, paper.closed, paper.entry}[what];
    }

    long label(int deed, int place) {
        if (isNo(papers, deed) || place < 0) return INDEX;
        Paper paper = papers.get(deed);
        String text = "SGPAW".charAt(paper.kind) + "" + paper.number;
        if (paper.state != 0) text += "," + " flv".charAt(paper.state);
        return place < text.length() ? text.charAt(place) : '.';
    }

    long revoke(int power, boolean isTold) {
        if (isNo(papers, power)) return INDEX;
        Paper paper = papers.get(power);
        if (paper.kind != 3 || paper.state == 0) return STATE;
        long before = paper.revoked ? 1 : 0;
        paper.revoked = true;
        paper.known = paper.known || isTold;
        return before;
    }

    long isGood(int power) {
        return isNo(papers, power) ? INDEX : good(power) ? 1 : 0;
    }

    private int least(Paper paper) {
        return paper.grades.stream().min(Integer::compare).orElse(-1);
    }

    long copy(int deed) {
        if (isNo(papers, deed)) return INDEX;
        Paper paper = papers.get(deed);
        if (paper.grades.isEmpty() || paper.grades.size() == 4) return STATE;
        int grade = least(paper) + 1;
        paper.grades.add(grade);
        return grade;
    }

    long lose(int deed) {
        if (isNo(papers, deed)) return INDEX;
        Paper paper = papers.get(deed);
        if (paper.grades.isEmpty()) return STATE;
        paper.grades.remove(Integer.valueOf(least(paper)));
        return least(paper);
    }

    long proof(int deed) {
        return isNo(papers, deed) ? INDEX : least(papers.get(deed));
    }

    private static boolean isTooFine(Fraction[] row) {
        for (Fraction share : row) {
            if (share.below.compareTo(BOUND) > 0) return true;
        }
        return false;
    }

    long enter(int deed) {
        if (isNo(papers, deed)) return INDEX;
        Paper paper = papers.get(deed);
        int grade = least(paper);
        if (paper.kind > 2 || paper.state != 1 || grade < 0 || grade > 1 || paper.entry != -1) return STATE;
        if (dead(paper.giver) || dead(paper.taker) || entries.size() == 100) return STATE;
        Fraction[] row = shares.get(paper.thing).clone();
        if (row[paper.giver].isLess(paper.part)) return STATE;
        if (paper.kind != 2) {
            row[paper.giver] = row[paper.giver].minus(paper.part);
            row[paper.taker] = row[paper.taker].plus(paper.part);
            if (isTooFine(row)) return STATE;
            shares.set(paper.thing, row);
        }
        long worth = (long) values.get(paper.thing) * paper.partAbove / paper.partBelow;
        int divisor = paper.kind == 0 ? 20 : paper.kind == 2 ? 100 : family(paper.giver, paper.taker) ? 50 : 10;
        duties += worth / divisor;
        paper.entry = entries.size();
        entries.add(new int[] {paper.kind, deed, paper.thing, day});
        return paper.entry;
    }

    private Paper lastWill(int person, int state) {
        Paper last = null;
        for (Paper paper : papers) {
            boolean counts = paper.kind == 4 && paper.giver == person && paper.state == state && !dead(paper.taker);
            if (counts && (last == null || paper.number > last.number)) last = paper;
        }
        return last;
    }

    private List<Integer> heirs(int person) {
        List<Integer> heirs = new ArrayList<>();
        for (int i = 0; i < people.size(); i++) {
            if (isChild(i, person) && !dead(i)) heirs.add(i);
        }
        if (heirs.isEmpty()) {
            for (int parent : people.get(person).parents) {
                if (!dead(parent)) heirs.add(parent);
            }
        }
        if (heirs.isEmpty()) heirs.add(CROWN);
        return heirs;
    }

    private Fraction[] afterDeath(Fraction[] before, int person, Paper will) {
        Fraction[] row = before.clone();
        Fraction rest = row[person];
        row[person] = Fraction.ZERO;
        List<Integer> heirs = heirs(person);
        if (will != null) {
            Fraction part = will.part;
            boolean hasChildren = heirs.get(0) != CROWN && isChild(heirs.get(0), person);
            if (hasChildren && Fraction.of(1, 2).isLess(part)) part = Fraction.of(1, 2);
            Fraction taken = rest.times(part);
            row[will.taker] = row[will.taker].plus(taken);
            rest = rest.minus(taken);
        }
        for (int heir : heirs) {
            row[heir] = row[heir].plus(rest.times(Fraction.of(1, heirs.size())));
        }
        return row;
    }

    long die(int person) {
        if (isNo(people, person)) return INDEX;
        if (dead(person)) return STATE;
        Paper will = lastWill(person, 1);
        if (will == null) will = lastWill(person, 2);
        List<Integer> moved = new ArrayList<>();
        List<Fraction[]> after = new ArrayList<>(shares);
        for (int thing = 0; thing < values.size(); thing++) {
            if (shares.get(thing)[person].above.signum() > 0) {
                moved.add(thing);
                after.set(thing, afterDeath(shares.get(thing), person, will));
                if (isTooFine(after.get(thing))) return STATE;
            }
        }
        if (entries.size() + moved.size() > 100) return STATE;
        for (int thing : moved) {
            entries.add(new int[] {5, person, thing, day});
        }
        shares.clear();
        shares.addAll(after);
        people.get(person).alive = false;
        for (Someone ward : people) {
            if (ward.guardian == person) ward.guardian = -1;
        }
        return moved.size();
    }

    long entry(int entry, int what) {
        if (isNo(entries, entry)) return INDEX;
        return what < 0 || what > 3 ? ARGUMENT : entries.get(entry)[what];
    }

    long search(int thing, int from, int to) {
        if (isNo(values, thing)) return INDEX;
        if (from < 0 || to < from) return ARGUMENT;
        long found = 0;
        for (int i = 0; i < entries.size(); i++) {
            if (from <= i && i <= to && entries.get(i)[2] == thing) found++;
        }
        return found;
    }

    long pledge(int thing, int rank) {
        if (isNo(values, thing) || rank < 0) return INDEX;
        List<Integer> pledges = new ArrayList<>();
        for (int[] entry : entries) {
            if (entry[0] == 2 && entry[2] == thing) pledges.add(entry[1]);
        }
        return rank < pledges.size() ? pledges.get(rank) : -1;
    }

    long share(int thing, int person, boolean isBelow) {
        if (isNo(values, thing) || person != -1 && isNo(people, person)) return INDEX;
        Fraction share = shares.get(thing)[person == -1 ? CROWN : person];
        return (isBelow ? share.below : share.above).longValueExact();
    }

    long pass(int days) {
        if (days < 1 || days > 10000) return ARGUMENT;
        day += days;
        return day;
    }
}
