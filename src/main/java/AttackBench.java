/**
 * A bench for arguments that attack one another: what can be held together, in several senses;
 * what must be; how it can be defended in a dialogue; and in which circles attacks run.
 *
 * <p>A set of arguments is a number with bit a for argument a.
 */
public final class AttackBench {
    public static final int NONE = -1;

    private static final int MOST_ARGUMENTS = 12;
    private static final int MOST_SETS = 1 << MOST_ARGUMENTS;
    private static final int MOST_MOVES = 500;
    private static final int JOINT_HELPERS = 3;
    private static final int SUPPORT_HELPERS = 1;

    private static final int COMPLETE = 0;
    private static final int PREFERRED = 1;
    private static final int STABLE = 2;
    private static final int STAGE = 3;
    private static final int ADMISSIBLE = 4;
    private static final int KINDS = 5;

    private static final int LABEL_OUT = 0;
    private static final int LABEL_IN = 1;
    private static final int LABEL_OPEN = 2;

    private static final int DEFENDER = 0;
    private static final int OTHER = 1;

    private final Web web;
    private final Senses senses;
    private final Listing listing;
    private final Grounds grounds;
    private final Talk talk;
    private final Rings rings;

    public AttackBench() {
        web = new Web();
        senses = new Senses();
        listing = new Listing();
        grounds = new Grounds();
        talk = new Talk();
        rings = new Rings();
    }

    public int claim() {
        if (!web.hasRoomFor(1)) {
            return NONE;
        }
        int comer = web.add();
        changed();
        return comer;
    }

    public boolean attack(int a, int b, boolean on) {
        if (!web.has(a) || !web.has(b)) {
            return false;
        }
        if (web.leads(a, b) != on) {
            web.put(a, b, on);
            changed();
        }
        return true;
    }

    public boolean attacks(int a, int b) {
        return web.leads(a, b);
    }

    public int joint(int a, int b, int c) {
        if (!web.has(a) || !web.has(b) || !web.has(c) || !web.hasRoomFor(JOINT_HELPERS)) {
            return NONE;
        }
        int first = web.add();
        int second = web.add();
        int third = web.add();
        web.put(a, first, true);
        web.put(b, second, true);
        web.put(first, third, true);
        web.put(second, third, true);
        web.put(third, c, true);
        changed();
        return first;
    }

    public int support(int a, int b) {
        if (!web.has(a) || !web.has(b) || !web.hasRoomFor(SUPPORT_HELPERS)) {
            return NONE;
        }
        int helper = web.add();
        web.put(a, helper, true);
        web.put(helper, b, true);
        changed();
        return helper;
    }

    public int arguments() {
        return web.size();
    }

    public boolean isFree(int set) {
        return web.hasSet(set) && (web.targetsOf(set) & set) == 0;
    }

    public boolean is(int kind, int set) {
        if (!isKind(kind) || !web.hasSet(set)) {
            return false;
        }
        senses.learn(web);
        return senses.isOf(kind, set);
    }

    public int attackedBy(int set) {
        return web.hasSet(set) ? web.targetsOf(set) : NONE;
    }

    public int defendedBy(int set) {
        return web.hasSet(set) ? web.defendedOf(set) : NONE;
    }

    public int grounded() {
        grounds.settle(web);
        return grounds.all();
    }

    public int round(int a) {
        if (!web.has(a)) {
            return 0;
        }
        grounds.settle(web);
        return grounds.roundOf(a);
    }

    public int ideal() {
        senses.learn(web);
        return senses.joinWithin(ADMISSIBLE, senses.meet(PREFERRED));
    }

    public void start(int kind) throws IllegalArgumentException {
        if (!isKind(kind)) {
            throw new IllegalArgumentException("no such kind");
        }
        listing.begin(kind);
    }

    public int next() throws IllegalStateException {
        if (!listing.isOpen()) {
            throw new IllegalStateException("no listing");
        }
        senses.learn(web);
        return listing.tell(senses);
    }

    public int label(int a) throws IllegalArgumentException, IllegalStateException {
        if (!web.has(a)) {
            throw new IllegalArgumentException("no such argument");
        }
        int told = listing.told();
        if (told == NONE) {
            throw new IllegalStateException("no set was told");
        }
        if (isIn(a, told)) {
            return LABEL_IN;
        }
        return isIn(a, web.targetsOf(told)) ? LABEL_OUT : LABEL_OPEN;
    }

    public int count(int kind) throws IllegalArgumentException {
        if (!isKind(kind)) {
            throw new IllegalArgumentException("no such kind");
        }
        senses.learn(web);
        return senses.tally(kind);
    }

    public boolean holds(int kind, int a, boolean all) throws IllegalArgumentException {
        if (!isKind(kind) || !web.has(a)) {
            throw new IllegalArgumentException("no such kind or argument");
        }
        senses.learn(web);
        return isIn(a, all ? senses.meet(kind) : senses.joinWithin(kind, web.everything()));
    }

    public int dialogue(int a) throws IllegalArgumentException {
        if (!web.has(a)) {
            throw new IllegalArgumentException("no such argument");
        }
        grounds.settle(web);
        return talk.about(a, web, grounds);
    }

    public int move(int k, int what) {
        return talk.tell(k, what);
    }

    public int circle(int a) {
        if (!web.has(a)) {
            return NONE;
        }
        rings.find(web);
        return rings.ringOf(a);
    }

    public int circles() {
        rings.find(web);
        return rings.size();
    }

    private void changed() {
        listing.end();
        senses.forget();
    }

    private static boolean isKind(int kind) {
        return kind >= 0 && kind < KINDS;
    }

    private static boolean isIn(int a, int set) {
        return (set & (1 << a)) != 0;
    }

    private static boolean isWithin(int set, int other) {
        return (set & ~other) == 0;
    }

    /** The arguments, and which attacks which. */
    private static final class Web {
        private final int[] targets;
        private final int[] attackers;
        private int size;

        Web() {
            targets = new int[MOST_ARGUMENTS];
            attackers = new int[MOST_ARGUMENTS];
            size = 0;
        }

        int size() {
            return size;
        }

        int everything() {
            return (1 << size) - 1;
        }

        boolean has(int a) {
            return a >= 0 && a < size;
        }

        boolean hasSet(int set) {
            return isWithin(set, everything());
        }

        boolean hasRoomFor(int more) {
            return size + more <= MOST_ARGUMENTS;
        }

        int add() {
            if (!hasRoomFor(1)) {
                return NONE;
            }
            size++;
            return size - 1;
        }

        boolean leads(int a, int b) {
            return has(a) && has(b) && isIn(b, targets[a]);
        }

        void put(int a, int b, boolean on) {
            if (!has(a) || !has(b)) {
                return;
            }
            if (on) {
                targets[a] |= 1 << b;
                attackers[b] |= 1 << a;
            } else {
                targets[a] &= ~(1 << b);
                attackers[b] &= ~(1 << a);
            }
        }

        int targetsOfOne(int a) {
            return has(a) ? targets[a] : 0;
        }

        int attackersOfOne(int a) {
            return has(a) ? attackers[a] : 0;
        }

        int targetsOf(int set) {
            int hit = 0;
            for (int a = 0; a < size; a++) {
                if (isIn(a, set)) {
                    hit |= targets[a];
                }
            }
            return hit;
        }

        int attackersOf(int set) {
            int from = 0;
            for (int a = 0; a < size; a++) {
                if (isIn(a, set)) {
                    from |= attackers[a];
                }
            }
            return from;
        }

        /** An argument is left undefended just if one attacks it which the set doesn't attack. */
        int defendedOf(int set) {
            int unanswered = everything() & ~targetsOf(set);
            return everything() & ~targetsOf(unanswered);
        }
    }

    /** Which sets are of which kinds; worked out once, and kept until the web changes. */
    private static final class Senses {
        // Bits of a mark beside those of the kinds. The last two are about the number as a range.
        private static final int FREE = 1 << KINDS;
        private static final int RANGE = 1 << (KINDS + 1);
        private static final int TOP_RANGE = 1 << (KINDS + 2);

        // Of the sets of 12 no more than 12 over 6 can be such that none is in another one.
        private static final int MOST_TOPS = 924;

        private final int[] targets;
        private final int[] marks;
        private final int[] tops;
        private int topCount;
        private int everything;
        private boolean known;

        Senses() {
            targets = new int[MOST_SETS];
            marks = new int[MOST_SETS];
            tops = new int[MOST_TOPS];
            topCount = 0;
            everything = 0;
            known = false;
        }

        void forget() {
            known = false;
        }

        void learn(Web web) {
            if (known) {
                return;
            }
            everything = web.everything();
            fillTargets(web);
            for (int set = 0; set <= everything && set < MOST_SETS; set++) {
                marks[set] = ownMarks(set);
            }
            markPreferred();
            markRanges();
            markStage();
            known = true;
        }

        int everything() {
            return everything;
        }

        boolean isOf(int kind, int set) {
            return hasMark(set, 1 << kind);
        }

        int tally(int kind) {
            int sum = 0;
            for (int set = 0; set <= everything; set++) {
                if (isOf(kind, set)) {
                    sum++;
                }
            }
            return sum;
        }

        /** What is in all sets of a kind: everything, if there are none. */
        int meet(int kind) {
            int common = everything;
            for (int set = 0; set <= everything; set++) {
                if (isOf(kind, set)) {
                    common &= set;
                }
            }
            return common;
        }

        /** What is in one of those sets of a kind that are within a bound. */
        int joinWithin(int kind, int bound) {
            int sum = 0;
            for (int set = 0; set <= everything; set++) {
                if (isWithin(set, bound) && isOf(kind, set)) {
                    sum |= set;
                }
            }
            return sum;
        }

        private static boolean isNumber(int set) {
            return set >= 0 && set < MOST_SETS;
        }

        private boolean hasMark(int set, int mark) {
            return isNumber(set) && (marks[set] & mark) != 0;
        }

        private void mark(int set, int mark) {
            if (isNumber(set)) {
                marks[set] |= mark;
            }
        }

        private int hitBy(int set) {
            return isNumber(set) ? targets[set] : 0;
        }

        private int rangeOf(int set) {
            return set | hitBy(set);
        }

        /** A set with a as its greatest argument attacks what a does and what the rest does. */
        private void fillTargets(Web web) {
            targets[0] = 0;
            for (int a = 0; a < web.size() && a < MOST_ARGUMENTS; a++) {
                int alone = 1 << a;
                int hit = web.targetsOfOne(a);
                for (int rest = 0; rest < alone; rest++) {
                    targets[alone + rest] = targets[rest] | hit;
                }
            }
        }

        /** The marks that a set has by itself, whatever other sets there are. */
        private int ownMarks(int set) {
            int hit = hitBy(set);
            if ((hit & set) != 0) {
                return 0;
            }
            int found = FREE;
            if (rangeOf(set) == everything) {
                found |= 1 << STABLE;
            }
            int defended = everything & ~hitBy(everything & ~hit);
            if (isWithin(set, defended)) {
                found |= 1 << ADMISSIBLE;
            }
            if (set == defended) {
                found |= 1 << COMPLETE;
            }
            return found;
        }

        // What has a set in it has a greater number: going down, a set's betters come before it.
        private void markPreferred() {
            topCount = 0;
            for (int set = everything; set >= 0; set--) {
                if (hasMark(set, 1 << ADMISSIBLE) && isNewTop(set)) {
                    mark(set, 1 << PREFERRED);
                }
            }
        }

        private void markRanges() {
            for (int set = 0; set <= everything; set++) {
                if (hasMark(set, FREE)) {
                    mark(rangeOf(set), RANGE);
                }
            }
            topCount = 0;
            for (int range = everything; range >= 0; range--) {
                if (hasMark(range, RANGE) && isNewTop(range)) {
                    mark(range, TOP_RANGE);
                }
            }
        }

        private void markStage() {
            for (int set = 0; set <= everything; set++) {
                if (hasMark(set, FREE) && hasMark(rangeOf(set), TOP_RANGE)) {
                    mark(set, 1 << STAGE);
                }
            }
        }

        /** Whether a set is in none of the tops; it is one of them then. */
        private boolean isNewTop(int set) {
            for (int k = 0; k < topCount; k++) {
                if (isWithin(set, tops[k])) {
                    return false;
                }
            }
            if (topCount < MOST_TOPS) {
                tops[topCount] = set;
                topCount++;
            }
            return true;
        }
    }

    /** The listing of a kind: where it is, and what it told last. */
    private static final class Listing {
        private boolean open;
        private int kind;
        private int place;
        private int told;

        Listing() {
            open = false;
            kind = 0;
            place = 0;
            told = NONE;
        }

        void begin(int newKind) {
            open = true;
            kind = newKind;
            place = 0;
            told = NONE;
        }

        void end() {
            open = false;
            told = NONE;
        }

        boolean isOpen() {
            return open;
        }

        int told() {
            return told;
        }

        int tell(Senses senses) {
            for (int set = place; set <= senses.everything(); set++) {
                if (senses.isOf(kind, set)) {
                    place = set + 1;
                    told = set;
                    return set;
                }
            }
            end();
            return NONE;
        }
    }

    /** The grounded set, and the rounds in which its arguments come into it. */
    private static final class Grounds {
        private final int[] rounds;
        private int all;

        Grounds() {
            rounds = new int[MOST_ARGUMENTS];
            all = 0;
        }

        int all() {
            return all;
        }

        int roundOf(int a) {
            return a >= 0 && a < MOST_ARGUMENTS ? rounds[a] : 0;
        }

        // What the arguments of the rounds up to r defend is just what has a round up to r + 1.
        void settle(Web web) {
            all = 0;
            for (int a = 0; a < MOST_ARGUMENTS; a++) {
                rounds[a] = 0;
            }
            for (int r = 1; r <= MOST_ARGUMENTS; r++) {
                int defended = web.defendedOf(all);
                noteRound(defended & ~all, r);
                all = defended;
            }
        }

        /** Of those in a set, the one of the least round, of these the least; NONE without one. */
        int earliestIn(int set) {
            int best = NONE;
            for (int a = 0; a < MOST_ARGUMENTS; a++) {
                if (isIn(a, set & all) && (best == NONE || rounds[a] < roundOf(best))) {
                    best = a;
                }
            }
            return best;
        }

        private void noteRound(int comers, int r) {
            for (int a = 0; a < MOST_ARGUMENTS; a++) {
                if (isIn(a, comers)) {
                    rounds[a] = r;
                }
            }
        }
    }

    /** The dialogue that was asked for last: it keeps its moves when the web changes. */
    private static final class Talk {
        private static final int ARGUMENT = 0;
        private static final int ANSWERED = 1;
        private static final int SIDE = 2;

        private final int[] said;
        private final int[] answered;
        private final int[] sides;
        private int size;
        private boolean tooLong;

        Talk() {
            said = new int[MOST_MOVES];
            answered = new int[MOST_MOVES];
            sides = new int[MOST_MOVES];
            size = 0;
            tooLong = false;
        }

        int about(int a, Web web, Grounds grounds) {
            size = 0;
            tooLong = false;
            if (grounds.roundOf(a) == 0) {
                return 0;
            }
            defend(a, NONE, web, grounds, 0);
            if (tooLong) {
                size = 0;
                return NONE;
            }
            return size;
        }

        int tell(int k, int what) {
            if (k < 0 || k >= size || k >= MOST_MOVES) {
                return NONE;
            }
            switch (what) {
                case ARGUMENT:
                    return said[k];
                case ANSWERED:
                    return answered[k];
                case SIDE:
                    return sides[k];
                default:
                    return NONE;
            }
        }

        // Each reply has a lesser round than what it defends, so no line is deeper than the rounds.
        private void defend(int a, int toMove, Web web, Grounds grounds, int depth) {
            int mine = say(a, toMove, DEFENDER);
            if (depth > MOST_ARGUMENTS) {
                tooLong = true;
            }
            for (int b = 0; b < MOST_ARGUMENTS && !tooLong; b++) {
                if (isIn(b, web.attackersOfOne(a))) {
                    int theirs = say(b, mine, OTHER);
                    int reply = grounds.earliestIn(web.attackersOfOne(b));
                    defend(reply, theirs, web, grounds, depth + 1);
                }
            }
        }

        private int say(int a, int toMove, int side) {
            if (size >= MOST_MOVES) {
                tooLong = true;
                return NONE;
            }
            said[size] = a;
            answered[size] = toMove;
            sides[size] = side;
            size++;
            return size - 1;
        }
    }

    /** The circles in which attacks run, by their numbers. */
    private static final class Rings {
        private final int[] reach;
        private final int[] numbers;
        private int size;

        Rings() {
            reach = new int[MOST_ARGUMENTS];
            numbers = new int[MOST_ARGUMENTS];
            size = 0;
        }

        int size() {
            return size;
        }

        int ringOf(int a) {
            return a >= 0 && a < MOST_ARGUMENTS ? numbers[a] : NONE;
        }

        void find(Web web) {
            fillReach(web);
            size = 0;
            int numbered = 0;
            for (int k = 0; k < web.size(); k++) {
                int ring = firstReady(web, numbered);
                number(ring);
                numbered |= ring;
            }
        }

        private void fillReach(Web web) {
            for (int a = 0; a < MOST_ARGUMENTS; a++) {
                reach[a] = web.targetsOfOne(a) | (1 << a);
            }
            for (int by = 0; by < MOST_ARGUMENTS; by++) {
                for (int a = 0; a < MOST_ARGUMENTS; a++) {
                    if (isIn(by, reach[a])) {
                        reach[a] |= reach[by];
                    }
                }
            }
        }

        /** The circle that is to be numbered next; empty if all are numbered. */
        private int firstReady(Web web, int numbered) {
            for (int a = 0; a < web.size(); a++) {
                if (!isIn(a, numbered)) {
                    int ring = around(a, web.size());
                    if (isWithin(web.attackersOf(ring), ring | numbered)) {
                        return ring;
                    }
                }
            }
            return 0;
        }

        private int around(int a, int count) {
            int ring = 0;
            for (int b = 0; b < count; b++) {
                if (comesTo(a, b) && comesTo(b, a)) {
                    ring |= 1 << b;
                }
            }
            return ring;
        }

        private boolean comesTo(int a, int b) {
            return a >= 0 && a < MOST_ARGUMENTS && isIn(b, reach[a]);
        }

        private void number(int ring) {
            if (ring == 0) {
                return;
            }
            for (int a = 0; a < MOST_ARGUMENTS; a++) {
                if (isIn(a, ring)) {
                    numbers[a] = size;
                }
            }
            size++;
        }
    }
}
