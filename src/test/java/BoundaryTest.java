import java.io.IOException;

/**
 * The document, sentence by sentence: what it says of the edges. Each test names the number of its
 * promise and the sentence; those of 'Terms' stand with the promise that shows them.
 */
public final class BoundaryTest extends Benches {
    private static final int[] NO_SET_OF_12 = {
        -1, 4096, 4097, 8191, 1 << 16, 1 << 30, Integer.MAX_VALUE, Integer.MIN_VALUE, Integer.MIN_VALUE | 4095};
    private static final int[] NO_WHAT = {-1, 3, 4, 32, 33, 34, Integer.MIN_VALUE, Integer.MAX_VALUE};

    // The sentences that several tests name.
    private static final String CALLS = "An object is used for at most 512 calls after it has been made;"
        + " what later calls answer is free.";
    private static final String ATTACK = "Whether one attacks another one from now on; false if there are none"
        + " such.";
    private static final String JOINT = "A JOINT attack: its first helper; NONE if there are none such, or there"
        + " would be more than 12.";
    private static final String SUPPORT = "A SUPPORT of b by a: its helper; NONE likewise.";
    private static final String LISTING = "THE LISTING of a kind tells its sets, from the least number on, one by"
        + " one; it ends when an attack or argument comes or goes (an attack that is there already, or isn't"
        + " there anyway, changes nothing).";
    private static final String MOVE = "A move of the dialogue that was asked for last (none, if that was 0 or"
        + " NONE; it stays what it was, whatever attacks or arguments come or go since): what 0 its argument,"
        + " 1 the move that it answers (NONE for the first one), 2 its side: 0 the defender's, 1 the other's;"
        + " NONE if there is none, or for another what.";

    private static final Due.Deed[] TESTS = {
        BoundaryTest::newObject, BoundaryTest::none, BoundaryTest::calls512, BoundaryTest::calls512OfChanges,
        BoundaryTest::claimUpTo12, BoundaryTest::argumentsUpTo11, BoundaryTest::attackOfNoneSuch,
        BoundaryTest::attackOnAndOff, BoundaryTest::attacksOfNoneSuch, BoundaryTest::jointHelpers,
        BoundaryTest::jointOfNoneSuch, BoundaryTest::jointBeyond12, BoundaryTest::supportHelper,
        BoundaryTest::supportOfNoneSuch, BoundaryTest::supportBeyond12, BoundaryTest::argumentsFromNoneToAll,
        BoundaryTest::numbersThatAreNoSets, BoundaryTest::conflictFree, BoundaryTest::freeNumbers,
        BoundaryTest::attackedByNoSet, BoundaryTest::attackedByEmptyAndFull, BoundaryTest::defendedByNoSet,
        BoundaryTest::defendedByEmptyAndFull, BoundaryTest::noKindOrSet, BoundaryTest::kindNumbers,
        BoundaryTest::admissible, BoundaryTest::complete, BoundaryTest::preferred, BoundaryTest::stable,
        BoundaryTest::stage, BoundaryTest::groundedLeast, BoundaryTest::groundedEmptyAndFull,
        BoundaryTest::rounds, BoundaryTest::roundOfNoneSuch, BoundaryTest::idealGreatest,
        BoundaryTest::idealEmptyAndFull, BoundaryTest::startBegins, BoundaryTest::startOfNoKind,
        BoundaryTest::nextToTheEnd, BoundaryTest::nextWithoutListing, BoundaryTest::listingOrder,
        BoundaryTest::listingEndsByChange, BoundaryTest::listingStaysWithoutChange, BoundaryTest::labels,
        BoundaryTest::labelOfNoneSuch, BoundaryTest::labelWithoutToldSet, BoundaryTest::countNoneToAll,
        BoundaryTest::countOfNoKind, BoundaryTest::holdsOfNone, BoundaryTest::holdsOfNoneSuch,
        BoundaryTest::dialogueFirstMove, BoundaryTest::dialogueAnswers, BoundaryTest::dialogueLengths,
        BoundaryTest::dialogueOfNoneSuch, BoundaryTest::moveNumbers, BoundaryTest::moveOfNone,
        BoundaryTest::moveStays, BoundaryTest::circleAloneAndWhole, BoundaryTest::circleOrder,
        BoundaryTest::circleOfNoneSuch, BoundaryTest::circlesNoneToAll};

    private static Document document;

    private BoundaryTest() {
    }

    public static void main(String[] args) throws IOException {
        document = new Document(args.length > 1 ? args[1] : null);
        for (Due.Deed test : TESTS) {
            Due.happens(test);
        }
        Due.about("the document");
        document.close();
        Due.close();
    }

    private static void sentence(int promise, String words) {
        Due.about("promise " + promise + ", '" + words + "'");
        document.name(promise, words);
    }

    private static void newObject() {
        sentence(1, "No arguments, no listing.");
        AttackBench x = new AttackBench();
        Due.is("arguments()", 0, x.arguments());
        Due.refusesState("next()", x::next);
        Due.refusesArgument("label(0)", () -> x.label(0));
        Due.no("attacks(0, 0)", x.attacks(0, 0));
        Due.no("attack(0, 0, true)", x.attack(0, 0, true));
        Due.is("joint(0, 0, 0)", NONE, x.joint(0, 0, 0));
        Due.is("support(0, 0)", NONE, x.support(0, 0));
        Due.is("round(0)", 0, x.round(0));
        Due.is("circle(0)", NONE, x.circle(0));
        Due.is("circles()", 0, x.circles());
        Due.is("move(0, 0)", NONE, x.move(0, 0));
        Due.is("arguments() after refused calls", 0, x.arguments());
        Due.is("grounded()", 0, x.grounded());
        Due.is("ideal()", 0, x.ideal());
        for (int kind = 0; kind < KINDS; kind++) {
            kindIs("the empty set is the one of each kind", x, kind, 0);
        }
        bench(3, 0, 1).start(COMPLETE);
        AttackBench later = new AttackBench();
        Due.is("arguments() beside another object", 0, later.arguments());
        Due.refusesState("next() beside another object's listing", later::next);
    }

    private static void none() {
        sentence(1, "The constants: `NONE = -1`: None.");
        Due.is("NONE", -1, AttackBench.NONE);
    }

    private static void calls512() {
        sentence(16, CALLS);
        AttackBench x = bench(MOST);
        x.start(ADMISSIBLE);
        for (int call = 14; call <= 512; call++) {
            Due.is("call " + call + ": next()", call - 14, x.next());
        }
    }

    private static void calls512OfChanges() {
        sentence(18, CALLS);
        AttackBench x = bench(MOST, 1, 0);
        for (int call = 14; call < 512; call += 2) {
            boolean on = call % 4 != 0;
            x.attack(0, 1, on);
            Due.is("call " + (call + 1) + ": count(PREFERRED)", on ? 2 : 1, x.count(PREFERRED));
        }
        Due.is("call 512: count(ADMISSIBLE)", 3 * 1024, x.count(ADMISSIBLE));
    }

    private static void claimUpTo12() {
        sentence(2, "An argument comes: its number; NONE if there are 12.");
        AttackBench x = new AttackBench();
        for (int a = 0; a < MOST; a++) {
            Due.is("claim()", a, x.claim());
            Due.is("arguments()", a + 1, x.arguments());
        }
        x.attack(11, 0, true);
        x.start(PREFERRED);
        for (int k = 0; k < 3; k++) {
            Due.is("claim() beyond 12", NONE, x.claim());
            Due.is("arguments() beyond 12", MOST, x.arguments());
        }
        Due.is("next(): the refused claim left the listing", 4094, x.next());
        Due.yes("attacks(11, 0): the refused claim left the attack", x.attacks(11, 0));
        AttackBench byHelpers = bench(1);
        byHelpers.joint(0, 0, 0);
        Due.is("claim() behind helpers", 4, byHelpers.claim());
        AttackBench fullOfHelpers = bench(9);
        fullOfHelpers.joint(0, 0, 0);
        Due.is("claim() when helpers make it 12", NONE, fullOfHelpers.claim());
    }

    private static void argumentsUpTo11() {
        sentence(3, "ARGUMENTS are 0 .. 11; each may ATTACK others, and itself.");
        AttackBench x = bench(MOST);
        int[] pairs = {0, 0, 0, 11, 11, 0, 11, 11, 5, 6};
        for (int i = 0; i < pairs.length; i += 2) {
            Due.yes("attack", x.attack(pairs[i], pairs[i + 1], true));
        }
        Due.no("attack by 12", x.attack(12, 0, true));
        Due.no("attack on 12", x.attack(0, 12, true));
        attacksAre("each on each", x, pairs);
        AttackBench all = bench(MOST);
        for (int a = 0; a < MOST; a++) {
            for (int b = 0; b < MOST; b++) {
                all.attack(a, b, true);
            }
        }
        for (int a = 0; a < MOST; a++) {
            Due.is("attackedBy of one that attacks all", 4095, all.attackedBy(1 << a));
            Due.no("isFree of one that attacks itself", all.isFree(1 << a));
        }
    }

    private static void attackOfNoneSuch() {
        sentence(3, ATTACK);
        for (int size = 0; size <= MOST; size++) {
            AttackBench x = bench(size, 0, 0);
            Due.no("attack by the next number", x.attack(size, 0, true));
            Due.no("attack on the next number", x.attack(0, size, true));
            Due.no("attack by -1", x.attack(-1, 0, true));
            Due.no("attack on -1", x.attack(0, -1, true));
            Due.no("attack of none such by none such", x.attack(size, size, true));
            Due.is("attack by the last", size > 0 ? 1 : 0, x.attack(size - 1, 0, true) ? 1 : 0);
        }
        AttackBench x = bench(2, 0, 0, 1, 1);
        x.start(STAGE);
        for (int bad : NO_ARGUMENT) {
            for (int a = 0; a < 2; a++) {
                Due.no("attack(" + bad + ", " + a + ", true)", x.attack(bad, a, true));
                Due.no("attack(" + a + ", " + bad + ", true)", x.attack(a, bad, true));
                Due.no("attack(" + bad + ", " + a + ", false)", x.attack(bad, a, false));
                Due.no("attack(" + a + ", " + bad + ", false)", x.attack(a, bad, false));
            }
            Due.no("attack(" + bad + ", " + bad + ", true)", x.attack(bad, bad, true));
        }
        Due.is("next(): refused attacks left the listing", 0, x.next());
        attacksAre("refused attacks change none", x, 0, 0, 1, 1);
    }

    private static void attackOnAndOff() {
        sentence(3, ATTACK);
        AttackBench x = bench(3, 2, 1);
        for (boolean on : new boolean[] {true, true, false, false, true, false}) {
            Due.yes("attack(0, 1, " + on + ")", x.attack(0, 1, on));
            Due.is("attacks(0, 1)", on ? 1 : 0, x.attacks(0, 1) ? 1 : 0);
            Due.no("attacks(1, 0)", x.attacks(1, 0));
            Due.yes("attacks(2, 1)", x.attacks(2, 1));
        }
        Due.yes("attack(1, 1, false): it isn't there", x.attack(1, 1, false));
        attacksAre("the rest stays", x, 2, 1);
    }

    private static void attacksOfNoneSuch() {
        sentence(4, "Whether one attacks another one.");
        AttackBench x = bench(MOST, 0, 0, 0, 1, 1, 0, 11, 11);
        for (int bad : NO_ARGUMENT) {
            for (int a : new int[] {0, 1, 11}) {
                Due.no("attacks(" + bad + ", " + a + ")", x.attacks(bad, a));
                Due.no("attacks(" + a + ", " + bad + ")", x.attacks(a, bad));
            }
            Due.no("attacks(" + bad + ", " + bad + ")", x.attacks(bad, bad));
        }
        attacksAre("at 12", x, 0, 0, 0, 1, 1, 0, 11, 11);
        AttackBench small = bench(1, 0, 0);
        Due.yes("attacks(0, 0)", small.attacks(0, 0));
        Due.no("attacks(0, 1) of one", small.attacks(0, 1));
        Due.no("attacks(1, 0) of one", small.attacks(1, 0));
    }

    private static void jointHelpers() {
        sentence(5, "A JOINT attack of a and b on c (also of a alone, or on one of both) makes three"
            + " HELPERS, the next arguments: the first one is attacked by a, the second one by b,"
            + " both attack the third one, which attacks c.");
        AttackBench three = bench(3);
        Due.is("count(ADMISSIBLE)", 8, three.count(ADMISSIBLE));
        Due.is("joint(2, 0, 1)", 3, three.joint(2, 0, 1));
        Due.is("arguments()", 6, three.arguments());
        Due.is("count(ADMISSIBLE): 5 needs 0 and 2", 5, three.count(ADMISSIBLE));
        attacksAre("joint(2, 0, 1)", three, 2, 3, 0, 4, 3, 5, 4, 5, 5, 1);
        AttackBench alone = bench(2);
        Due.is("joint(1, 1, 0)", 2, alone.joint(1, 1, 0));
        attacksAre("of one alone", alone, 1, 2, 1, 3, 2, 4, 3, 4, 4, 0);
        AttackBench onFirst = bench(2);
        Due.is("joint(0, 1, 0)", 2, onFirst.joint(0, 1, 0));
        attacksAre("on the first of both", onFirst, 0, 2, 1, 3, 2, 4, 3, 4, 4, 0);
        AttackBench onSecond = bench(2);
        Due.is("joint(0, 1, 1)", 2, onSecond.joint(0, 1, 1));
        attacksAre("on the second of both", onSecond, 0, 2, 1, 3, 2, 4, 3, 4, 4, 1);
        AttackBench onItself = bench(1, 0, 0);
        Due.is("joint(0, 0, 0)", 1, onItself.joint(0, 0, 0));
        attacksAre("of one alone on itself", onItself, 0, 0, 0, 1, 0, 2, 1, 3, 2, 3, 3, 0);
        Due.is("joint(1, 3, 2): helpers may be joined", 4, onItself.joint(1, 3, 2));
        Due.yes("attacks(1, 4)", onItself.attacks(1, 4));
        Due.yes("attacks(6, 2)", onItself.attacks(6, 2));
    }

    private static void jointOfNoneSuch() {
        sentence(5, JOINT);
        AttackBench x = bench(2, 0, 1);
        x.start(COMPLETE);
        for (int bad : NO_ARGUMENT) {
            Due.is("joint(" + bad + ", 0, 1)", NONE, x.joint(bad, 0, 1));
            Due.is("joint(0, " + bad + ", 1)", NONE, x.joint(0, bad, 1));
            Due.is("joint(0, 1, " + bad + ")", NONE, x.joint(0, 1, bad));
            Due.is("joint(" + bad + ", " + bad + ", " + bad + ")", NONE, x.joint(bad, bad, bad));
        }
        for (int helper = 2; helper <= 4; helper++) {
            Due.is("joint by a helper to be", NONE, x.joint(helper, 0, 1));
            Due.is("joint with a helper to be", NONE, x.joint(0, helper, 1));
            Due.is("joint on a helper to be", NONE, x.joint(0, 1, helper));
        }
        Due.is("arguments() after refused joints", 2, x.arguments());
        Due.is("next(): refused joints left the listing", 1, x.next());
        attacksAre("refused joints", x, 0, 1);
        Due.is("joint on a new object", NONE, new AttackBench().joint(0, 0, 0));
    }

    private static void jointBeyond12() {
        sentence(5, JOINT);
        AttackBench fits = bench(9);
        Due.is("joint that makes it 12", 9, fits.joint(0, 8, 4));
        attacksAre("joint that makes it 12", fits, 0, 9, 8, 10, 9, 11, 10, 11, 11, 4);
        Due.is("joint at 12", NONE, fits.joint(0, 8, 4));
        for (int size = 10; size <= MOST; size++) {
            AttackBench x = bench(size, 1, 0);
            x.start(COMPLETE);
            Due.is("joint at " + size, NONE, x.joint(0, 1, 2));
            Due.is("arguments() after that", size, x.arguments());
            Due.is("next(): it left the listing", (1 << size) - 2, x.next());
            attacksAre("after that", x, 1, 0);
        }
        AttackBench room = bench(10);
        room.joint(0, 0, 0);
        Due.is("claim() behind a refused joint", 10, room.claim());
        Due.is("support() behind a refused joint", 11, room.support(0, 1));
    }

    private static void supportHelper() {
        sentence(6, "A SUPPORT of b by a (also by itself) makes one, which a attacks, and which attacks b.");
        AttackBench x = bench(2);
        Due.is("count(ADMISSIBLE)", 4, x.count(ADMISSIBLE));
        Due.is("support(1, 0)", 2, x.support(1, 0));
        Due.is("count(ADMISSIBLE): 0 needs 1", 3, x.count(ADMISSIBLE));
        attacksAre("support(1, 0)", x, 1, 2, 2, 0);
        Due.is("support(0, 0)", 3, x.support(0, 0));
        attacksAre("by itself", x, 1, 2, 2, 0, 0, 3, 3, 0);
        Due.is("support(3, 2): of a helper by a helper", 4, x.support(3, 2));
        attacksAre("of a helper by a helper", x, 1, 2, 2, 0, 0, 3, 3, 0, 3, 4, 4, 2);
        AttackBench alone = bench(1);
        Due.is("support(0, 0) of the only one", 1, alone.support(0, 0));
        attacksAre("of the only one", alone, 0, 1, 1, 0);
    }

    private static void supportOfNoneSuch() {
        sentence(6, SUPPORT);
        AttackBench x = bench(2, 0, 1);
        x.start(COMPLETE);
        for (int bad : NO_ARGUMENT) {
            Due.is("support(" + bad + ", 0)", NONE, x.support(bad, 0));
            Due.is("support(0, " + bad + ")", NONE, x.support(0, bad));
            Due.is("support(" + bad + ", " + bad + ")", NONE, x.support(bad, bad));
        }
        Due.is("support by the helper to be", NONE, x.support(2, 0));
        Due.is("support of the helper to be", NONE, x.support(0, 2));
        Due.is("arguments() after refused supports", 2, x.arguments());
        Due.is("next(): refused supports left the listing", 1, x.next());
        attacksAre("refused supports", x, 0, 1);
        Due.is("support on a new object", NONE, new AttackBench().support(0, 0));
    }

    private static void supportBeyond12() {
        sentence(6, SUPPORT);
        AttackBench x = bench(11);
        Due.is("support that makes it 12", 11, x.support(10, 0));
        attacksAre("support that makes it 12", x, 10, 11, 11, 0);
        x.start(PREFERRED);
        Due.is("support at 12", NONE, x.support(0, 1));
        Due.is("support at 12 by itself", NONE, x.support(11, 11));
        Due.is("arguments() after that", MOST, x.arguments());
        Due.is("next(): it left the listing", 2047, x.next());
        Due.no("attacks(0, 11): it left the attacks", x.attacks(0, 11));
        Due.no("attacks(11, 11): it left the attacks", x.attacks(11, 11));
    }

    private static void argumentsFromNoneToAll() {
        sentence(7, "How many arguments there are.");
        AttackBench x = new AttackBench();
        Due.is("arguments() of a new object", 0, x.arguments());
        x.claim();
        Due.is("arguments() after claim", 1, x.arguments());
        x.joint(0, 0, 0);
        Due.is("arguments() after joint", 4, x.arguments());
        x.support(0, 3);
        Due.is("arguments() after support", 5, x.arguments());
        x.attack(0, 1, false);
        Due.is("arguments() after an attack went", 5, x.arguments());
        x.joint(0, 1, 2);
        x.joint(0, 1, 2);
        Due.is("arguments() after joints", 11, x.arguments());
        x.joint(0, 1, 2);
        Due.is("arguments() after a refused joint", 11, x.arguments());
        x.support(0, 1);
        Due.is("arguments() at 12", MOST, x.arguments());
        x.support(0, 1);
        x.claim();
        Due.is("arguments() after refused ones", MOST, x.arguments());
    }

    private static void numbersThatAreNoSets() {
        sentence(8, "SETS of them are numbers: bit a for argument a; a number is a set only if it has"
            + " no other bits.");
        for (int size = 0; size <= MOST; size++) {
            AttackBench x = bench(size);
            int all = (1 << size) - 1;
            Due.yes("isFree(0) of " + size, x.isFree(0));
            Due.yes("isFree of all " + size, x.isFree(all));
            for (int bit = 0; bit < 32; bit++) {
                Due.is("isFree of bit " + bit + " of " + size, bit < size ? 1 : 0, x.isFree(1 << bit) ? 1 : 0);
            }
            for (int bit = size; bit < 32; bit++) {
                Due.no("isFree of all and bit " + bit + " of " + size, x.isFree(all | 1 << bit));
            }
        }
        AttackBench x = bench(MOST, 0, 11);
        Due.is("attackedBy: bit 0 is argument 0, bit 11 argument 11", 1 << 11, x.attackedBy(1));
    }

    private static void conflictFree() {
        sentence(8, "CONFLICT-FREE: it attacks none in it.");
        AttackBench x = bench(MOST, 0, 11, 5, 5);
        Due.yes("isFree(0)", x.isFree(0));
        Due.yes("isFree of one that is attacked", x.isFree(set(11)));
        Due.yes("isFree of one that attacks", x.isFree(set(0)));
        Due.no("isFree of both", x.isFree(set(0, 11)));
        Due.no("isFree of one that attacks itself", x.isFree(set(5)));
        Due.no("isFree of all", x.isFree(4095));
        Due.yes("isFree of all but 5 and 11", x.isFree(4095 & ~set(5, 11)));
        Due.yes("isFree of all but 5 and 0", x.isFree(4095 & ~set(5, 0)));
        x.attack(5, 5, false);
        Due.yes("isFree of one that no longer attacks itself", x.isFree(set(5)));
    }

    private static void freeNumbers() {
        sentence(8, "Whether a number is a conflict-free set.");
        AttackBench x = bench(MOST);
        for (int bad : NO_SET_OF_12) {
            Due.no("isFree(" + bad + ")", x.isFree(bad));
        }
        Due.yes("isFree(4095)", x.isFree(4095));
        AttackBench empty = new AttackBench();
        Due.yes("isFree(0) of none", empty.isFree(0));
        Due.no("isFree(1) of none", empty.isFree(1));
        Due.no("isFree(-1) of none", empty.isFree(-1));
        empty.claim();
        Due.yes("isFree(1) when it came", empty.isFree(1));
    }

    private static void attackedByNoSet() {
        sentence(10, "What a set attacks; NONE if it is none.");
        AttackBench x = bench(MOST);
        for (int bad : NO_SET_OF_12) {
            Due.is("attackedBy(" + bad + ")", NONE, x.attackedBy(bad));
        }
        for (int size = 0; size < MOST; size++) {
            AttackBench small = bench(size, 0, 0);
            Due.is("attackedBy of a bit too high", NONE, small.attackedBy(1 << size));
            Due.is("attackedBy of all and a bit too high", NONE, small.attackedBy((2 << size) - 1));
            Due.is("attackedBy of all", size > 0 ? 1 : 0, small.attackedBy((1 << size) - 1));
        }
    }

    private static void attackedByEmptyAndFull() {
        sentence(10, "A set ATTACKS what one in it attacks; its RANGE is what is in it and what it attacks.");
        AttackBench x = bench(MOST, 0, 11, 11, 0, 3, 3, 3, 4, 4, 4);
        Due.is("attackedBy(0)", 0, x.attackedBy(0));
        Due.is("attackedBy of 3: itself too", set(3, 4), x.attackedBy(set(3)));
        Due.is("attackedBy of 3 and 4", set(3, 4), x.attackedBy(set(3, 4)));
        Due.is("attackedBy of one that attacks none", 0, x.attackedBy(set(1)));
        Due.is("attackedBy of all", set(0, 3, 4, 11), x.attackedBy(4095));
        Due.is("attackedBy(0) of none", 0, new AttackBench().attackedBy(0));
        // 2 attacks itself and 0, so no range has it; all else is in the ranges of {0} and of {1}.
        AttackBench range = bench(3, 0, 1, 1, 0, 2, 2, 2, 0);
        kindIs("range", range, STAGE, set(0), set(1));
        range.attack(1, 2, true);
        kindIs("range with what it attacks", range, STAGE, set(1));
    }

    private static void defendedByNoSet() {
        sentence(11, "What a set defends; NONE if it is none.");
        AttackBench x = bench(MOST);
        for (int bad : NO_SET_OF_12) {
            Due.is("defendedBy(" + bad + ")", NONE, x.defendedBy(bad));
        }
        for (int size = 0; size < MOST; size++) {
            AttackBench small = bench(size, 0, 0);
            Due.is("defendedBy of a bit too high", NONE, small.defendedBy(1 << size));
            Due.is("defendedBy of all and a bit too high", NONE, small.defendedBy((2 << size) - 1));
            Due.is("defendedBy of all", (1 << size) - 1, small.defendedBy((1 << size) - 1));
        }
    }

    private static void defendedByEmptyAndFull() {
        sentence(11, "It DEFENDS an argument if it attacks all that attack it.");
        AttackBench x = bench(MOST, 0, 11, 11, 0, 3, 3, 5, 6, 7, 6, 8, 5);
        Due.is("defendedBy(0): what isn't attacked", 4095 & ~set(0, 3, 5, 6, 11), x.defendedBy(0));
        Due.yes("defendedBy of 3: it attacks itself", (x.defendedBy(set(3)) & set(3)) != 0);
        Due.no("defendedBy of 8: one attacker of two", (x.defendedBy(set(8)) & set(6)) != 0);
        Due.yes("defendedBy of 8: 5 isn't defended by what it isn't attacked by",
            (x.defendedBy(set(8)) & set(5)) == 0);
        Due.yes("defendedBy of 0: itself", (x.defendedBy(set(0)) & set(0)) != 0);
        x.attack(1, 7, true);
        Due.yes("defendedBy of 1 and 8: both attackers", (x.defendedBy(set(1, 8)) & set(6)) != 0);
        Due.is("defendedBy of all", 4095 & ~set(5, 7), x.defendedBy(4095));
        Due.is("defendedBy(0) of none", 0, new AttackBench().defendedBy(0));
        Due.is("defendedBy(0) without attacks", 4095, bench(MOST).defendedBy(0));
    }

    private static void noKindOrSet() {
        sentence(9, "Whether a number is a set of a kind; false if there is none such.");
        AttackBench x = bench(2);
        for (int bad : NO_KIND) {
            for (int set = 0; set < 4; set++) {
                Due.no("is(" + bad + ", " + set + ")", x.is(bad, set));
            }
        }
        AttackBench full = bench(MOST);
        for (int kind = 0; kind < KINDS; kind++) {
            for (int bad : NO_SET_OF_12) {
                Due.no("is(" + kind + ", " + bad + ")", full.is(kind, bad));
            }
            Due.yes("is(" + kind + ", 4095)", full.is(kind, 4095));
            Due.no("is(" + kind + ", 4) of two", x.is(kind, 4));
            Due.no("is(" + kind + ", 7) of two", x.is(kind, 7));
            Due.yes("is(" + kind + ", 3) of two", x.is(kind, 3));
            Due.yes("is(" + kind + ", 0) of none", new AttackBench().is(kind, 0));
            Due.no("is(" + kind + ", 1) of none", new AttackBench().is(kind, 1));
        }
        // A set of a greater bench is no set of a lesser one, and one is when its argument came.
        AttackBench grows = bench(1);
        Due.no("is(PREFERRED, 3) of one", grows.is(PREFERRED, 3));
        grows.claim();
        Due.yes("is(PREFERRED, 3) of two", grows.is(PREFERRED, 3));
        Due.no("is(PREFERRED, 1) of two", grows.is(PREFERRED, 1));
    }

    private static void kindNumbers() {
        sentence(9, "The kinds of sets are 0 COMPLETE, 1 PREFERRED, 2 STABLE, 3 STAGE, 4 ADMISSIBLE.");
        // 0 and 1 attack each other; each of them attacks one that attacks itself, so none is stable.
        AttackBench x = bench(4, 0, 1, 1, 0, 1, 2, 2, 2, 0, 3, 3, 3);
        kindIs("kind", x, 0, 0, 1, 2);
        kindIs("kind", x, 1, 1, 2);
        kindIs("kind", x, 2);
        kindIs("kind", x, 3, 1, 2);
        kindIs("kind", x, 4, 0, 1, 2);
        // Here 1 attacks all else: each kind but 2 and 3 has other sets.
        AttackBench y = bench(4, 0, 1, 1, 0, 1, 2, 2, 2, 1, 3);
        kindIs("kind", y, 0, 0, set(1), set(0, 3));
        kindIs("kind", y, 1, set(1), set(0, 3));
        kindIs("kind", y, 2, set(1));
        kindIs("kind", y, 3, set(1));
        kindIs("kind", y, 4, 0, set(0), set(1), set(0, 3));
    }

    private static void admissible() {
        sentence(9, "ADMISSIBLE: that, and it defends all in it.");
        kindIs("none attacks", bench(2), ADMISSIBLE, 0, 1, 2, 3);
        kindIs("the attacked one isn't defended", bench(2, 0, 1), ADMISSIBLE, 0, 1);
        kindIs("each defends itself", bench(2, 0, 1, 1, 0), ADMISSIBLE, 0, 1, 2);
        kindIs("it defends itself, but isn't conflict-free", bench(1, 0, 0), ADMISSIBLE, 0);
        kindIs("a line", bench(3, 0, 1, 1, 2), ADMISSIBLE, 0, set(0), set(0, 2));
        kindIs("a circle", bench(3, 0, 1, 1, 2, 2, 0), ADMISSIBLE, 0);
    }

    private static void complete() {
        sentence(9, "COMPLETE: that, and all that it defends is in it.");
        kindIs("none attacks: all", bench(3), COMPLETE, 7);
        kindIs("what is defended must be in", bench(3, 0, 1, 1, 2), COMPLETE, set(0, 2));
        kindIs("nothing is defended", bench(2, 0, 1, 1, 0), COMPLETE, 0, 1, 2);
        kindIs("what attacks itself is out", bench(2, 0, 0), COMPLETE, set(1));
        // 0 defends 0 and 2; 1 attacks itself.
        kindIs("defended, though open at first", bench(3, 0, 1, 1, 0, 1, 1, 1, 2), COMPLETE, 0, set(0, 2));
    }

    private static void preferred() {
        sentence(9, "PREFERRED: admissible, and in no other such set.");
        kindIs("all", bench(3), PREFERRED, 7);
        kindIs("the empty one, if there is no other", bench(1, 0, 0), PREFERRED, 0);
        kindIs("two", bench(2, 0, 1, 1, 0), PREFERRED, 1, 2);
        kindIs("of different sizes", bench(4, 0, 1, 1, 0, 0, 2, 0, 3, 2, 0), PREFERRED, set(0), set(1, 2, 3));
        AttackBench pairs = bench(MOST, 0, 1, 1, 0, 2, 3, 3, 2, 4, 5, 5, 4, 6, 7, 7, 6, 8, 9, 9, 8, 10, 11, 11, 10);
        Due.is("count(PREFERRED) of six pairs", 64, pairs.count(PREFERRED));
        Due.yes("is(PREFERRED) the first of each pair", pairs.is(PREFERRED, 0x555));
        Due.no("is(PREFERRED) without the last pair", pairs.is(PREFERRED, 0x155));
        Due.no("is(PREFERRED) without the first pair", pairs.is(PREFERRED, 0x554));
    }

    private static void stable() {
        sentence(9, "STABLE: conflict-free, and all is in its range.");
        kindIs("all, if none attacks", bench(3), STABLE, 7);
        kindIs("none at all", bench(3, 0, 1, 1, 2, 2, 0), STABLE);
        kindIs("none beside one that attacks itself", bench(2, 1, 1), STABLE);
        kindIs("one attacks what attacks itself", bench(2, 1, 1, 0, 1), STABLE, 1);
        kindIs("each of three that attack each other", bench(3, 0, 1, 1, 0, 0, 2, 2, 0, 1, 2, 2, 1), STABLE, 1, 2, 4);
        kindIs("the empty one, if there is no argument", new AttackBench(), STABLE, 0);
    }

    private static void stage() {
        sentence(9, "STAGE: conflict-free, and its range is in the range of no other such set but the"
            + " same range.");
        kindIs("the empty one, if there is no other", bench(1, 0, 0), STAGE, 0);
        kindIs("a circle: each range is all but one", bench(3, 0, 1, 1, 2, 2, 0), STAGE, 1, 2, 4);
        kindIs("the same range twice", bench(3, 0, 1, 1, 0, 2, 2), STAGE, 1, 2);
        kindIs("ranges of which none is in the other", bench(3, 0, 1, 1, 2, 2, 1, 2, 2), STAGE, 1, 2);
        kindIs("a range in a wider one", bench(3, 0, 1, 0, 2, 1, 0, 2, 2), STAGE, 1);
        kindIs("what attacks itself is in no range", bench(3, 0, 2, 1, 1), STAGE, set(0));
        kindIs("the same range, though one of all is missing", bench(4, 3, 3, 0, 1, 1, 0, 0, 2, 1, 2), STAGE, 1, 2);
        AttackBench wide = bench(MOST);
        for (int a = 0; a < MOST; a++) {
            wide.attack(a, (a + 1) % MOST, true);
            wide.attack(a, a, true);
        }
        Due.is("count(STAGE) if all attack themselves", 1, wide.count(STAGE));
        Due.yes("is(STAGE, 0) if all attack themselves", wide.is(STAGE, 0));
    }

    private static void groundedLeast() {
        sentence(12, "GROUNDED: the least complete set.");
        Due.is("grounded() of two that attack each other", 0, bench(2, 0, 1, 1, 0).grounded());
        // The complete sets are {4}, {0, 4} and {1, 4}.
        AttackBench x = bench(5, 0, 1, 1, 0, 2, 2, 4, 3);
        Due.is("grounded()", set(4), x.grounded());
        Due.is("the first complete set", set(4), firstOf(x, COMPLETE));
        x.attack(4, 1, true);
        Due.is("grounded() when one falls", set(0, 4), x.grounded());
        Due.is("the first complete set then", set(0, 4), firstOf(x, COMPLETE));
    }

    private static int firstOf(AttackBench x, int kind) {
        x.start(kind);
        return x.next();
    }

    private static void groundedEmptyAndFull() {
        sentence(12, "The grounded set.");
        Due.is("grounded() of none", 0, new AttackBench().grounded());
        Due.is("grounded() of one", 1, bench(1).grounded());
        Due.is("grounded() of one that attacks itself", 0, bench(1, 0, 0).grounded());
        Due.is("grounded() of 12", 4095, bench(MOST).grounded());
        Due.is("grounded() of a line of 12", 0x555, line().grounded());
        AttackBench round = line();
        round.attack(11, 0, true);
        Due.is("grounded() of a round of 12", 0, round.grounded());
        AttackBench back = bench(MOST);
        for (int a = MOST - 1; a > 0; a--) {
            back.attack(a, a - 1, true);
        }
        Due.is("grounded() of a line against the numbers", 0xAAA, back.grounded());
    }

    /** 0 attacks 1, 1 attacks 2, and so on up to 11. */
    private static AttackBench line() {
        AttackBench x = bench(MOST);
        for (int a = 0; a + 1 < MOST; a++) {
            x.attack(a, a + 1, true);
        }
        return x;
    }

    private static void rounds() {
        sentence(13, "The ROUND of an argument in it: 1 if it isn't attacked; else 1 more than the least"
            + " number r for which all that attack it are attacked by ones of a round up to r.");
        AttackBench line = line();
        for (int a = 0; a < MOST; a++) {
            Due.is("round(" + a + ") in a line of 12", a % 2 == 0 ? a / 2 + 1 : 0, line.round(a));
        }
        // 7 is attacked by 5 and 6; 5 falls to 0, 6 falls to 4 in round 2, and to 0 as well later.
        AttackBench x = bench(8, 0, 5, 0, 3, 3, 4, 4, 6, 5, 7, 6, 7);
        Due.is("round(4)", 2, x.round(4));
        Due.is("round(7): the latest of its attackers' falls", 3, x.round(7));
        x.attack(0, 6, true);
        Due.is("round(7): the first that fells 6 counts", 2, x.round(7));
        x.attack(0, 5, false);
        x.attack(0, 6, false);
        Due.is("round(5): now it isn't attacked", 1, x.round(5));
        Due.is("round(7): and fells it", 0, x.round(7));
    }

    private static void roundOfNoneSuch() {
        sentence(13, "The round of an argument; 0 if it isn't in the grounded set, or there is none such.");
        AttackBench x = bench(MOST, 0, 1, 2, 2, 3, 4, 4, 3);
        for (int bad : NO_ARGUMENT) {
            Due.is("round(" + bad + ")", 0, x.round(bad));
        }
        Due.is("round(1): attacked by 0", 0, x.round(1));
        Due.is("round(2): attacked by itself", 0, x.round(2));
        Due.is("round(3): open", 0, x.round(3));
        Due.is("round(0)", 1, x.round(0));
        Due.is("round(11)", 1, x.round(11));
        x.attack(11, 0, true);
        Due.is("round(0): it left the grounded set", 0, x.round(0));
        Due.is("round(1): it came into it", 2, x.round(1));
        for (int size = 0; size < MOST; size++) {
            AttackBench small = bench(size);
            Due.is("round of the next number", 0, small.round(size));
            small.claim();
            Due.is("round of it when it came", 1, small.round(size));
        }
    }

    private static void idealGreatest() {
        sentence(14, "IDEAL: the greatest admissible set that is in each preferred one.");
        Due.is("ideal() beyond the grounded set", set(0), bench(2, 0, 1, 1, 0, 1, 1).ideal());
        // 3 is in both preferred sets, {0, 3} and {1, 3}, but {3} isn't admissible.
        AttackBench both = bench(4, 0, 1, 1, 0, 0, 2, 1, 2, 2, 3);
        Due.is("ideal() is admissible", 0, both.ideal());
        both.claim();
        Due.is("ideal() is the greatest such", set(4), both.ideal());
        Due.is("ideal() is in each preferred one", 0, bench(2, 0, 1, 1, 0).ideal());
        // The preferred sets are {0, 4} and {1, 4}; 4 beats 5 only because 5 attacks itself.
        AttackBench more = bench(6, 0, 1, 1, 0, 4, 5, 5, 4, 5, 5);
        Due.is("ideal() though not grounded", set(2, 3, 4), more.ideal());
        Due.is("grounded() there", set(2, 3), more.grounded());
    }

    private static void idealEmptyAndFull() {
        sentence(14, "The ideal set.");
        Due.is("ideal() of none", 0, new AttackBench().ideal());
        Due.is("ideal() of one", 1, bench(1).ideal());
        Due.is("ideal() of one that attacks itself", 0, bench(1, 0, 0).ideal());
        Due.is("ideal() of 12", 4095, bench(MOST).ideal());
        Due.is("ideal() of a line of 12", 0x555, line().ideal());
    }

    private static void startBegins() {
        sentence(15, "The listing of a kind begins.");
        AttackBench x = bench(2, 0, 1, 1, 0);
        x.start(COMPLETE);
        Due.is("next()", 0, x.next());
        Due.is("next()", 1, x.next());
        x.start(COMPLETE);
        Due.is("next() after a start amid it", 0, x.next());
        x.start(STABLE);
        Due.is("next() of another kind", 1, x.next());
        Due.is("next() of another kind", 2, x.next());
        Due.is("next() of another kind", NONE, x.next());
        x.start(ADMISSIBLE);
        Due.is("next() after a start at the end", 0, x.next());
        AttackBench empty = new AttackBench();
        for (int kind = 0; kind < KINDS; kind++) {
            empty.start(kind);
            Due.is("next() of no arguments", 0, empty.next());
            Due.is("next() of no arguments again", NONE, empty.next());
        }
    }

    private static void startOfNoKind() {
        sentence(15, "IllegalArgumentException: there is none such.");
        AttackBench x = bench(2, 0, 1, 1, 0);
        for (int bad : NO_KIND) {
            Due.refusesArgument("start(" + bad + ")", () -> x.start(bad));
            Due.refusesState("next() after it", x::next);
        }
        x.start(PREFERRED);
        Due.is("next()", 1, x.next());
        for (int bad : NO_KIND) {
            Due.refusesArgument("start(" + bad + ") amid a listing", () -> x.start(bad));
        }
        Due.is("label(0): a refused start left the set", 1, x.label(0));
        Due.is("next(): a refused start left the listing", 2, x.next());
        Due.refusesArgument("start(-1) on a new object", () -> new AttackBench().start(-1));
        Due.refusesArgument("start(5) on a new object", () -> new AttackBench().start(5));
    }

    private static void nextToTheEnd() {
        sentence(16, "The next set; NONE if there are no more (it is at its end then).");
        AttackBench x = bench(2, 0, 1, 1, 0);
        x.start(PREFERRED);
        Due.is("next()", 1, x.next());
        Due.is("next()", 2, x.next());
        Due.is("next() at the end", NONE, x.next());
        Due.refusesState("next() behind the end", x::next);
        AttackBench none = bench(1, 0, 0);
        none.start(STABLE);
        Due.is("next() if there are no sets", NONE, none.next());
        Due.refusesState("next() behind that", none::next);
        AttackBench full = bench(MOST);
        full.start(PREFERRED);
        Due.is("next() of the set of all", 4095, full.next());
        Due.is("next() behind the set of all", NONE, full.next());
        Due.refusesState("next() behind the end", full::next);
    }

    private static void nextWithoutListing() {
        sentence(16, "IllegalStateException: no listing was begun, or it has ended.");
        AttackBench x = bench(2);
        Due.refusesState("next() before start", x::next);
        Due.refusesState("next() before start again", x::next);
        x.start(STABLE);
        x.next();
        x.next();
        for (int k = 0; k < 3; k++) {
            Due.refusesState("next() after the end", x::next);
        }
        x.start(STABLE);
        x.attack(0, 1, true);
        for (int k = 0; k < 3; k++) {
            Due.refusesState("next() after a change", x::next);
        }
        x.start(STABLE);
        Due.is("next() after a new start", 1, x.next());
    }

    private static void listingOrder() {
        sentence(16, LISTING);
        AttackBench x = bench(8);
        x.start(ADMISSIBLE);
        for (int set = 0; set < 256; set++) {
            Due.is("next() of every set of 8", set, x.next());
        }
        Due.is("next() behind every set of 8", NONE, x.next());
        AttackBench pairs = bench(MOST, 10, 0, 0, 10, 11, 1, 1, 11);
        pairs.start(PREFERRED);
        int rest = 4095 & ~set(0, 1, 10, 11);
        Due.is("next()", rest | set(0, 1), pairs.next());
        Due.is("next()", rest | set(1, 10), pairs.next());
        Due.is("next()", rest | set(0, 11), pairs.next());
        Due.is("next()", rest | set(10, 11), pairs.next());
        Due.is("next()", NONE, pairs.next());
    }

    /** Amid a listing, behind its first set or before it. */
    private static AttackBench listed(boolean told) {
        AttackBench x = bench(3, 0, 1, 1, 0);
        x.start(COMPLETE);
        if (told) {
            x.next();
        }
        return x;
    }

    private static void hasEnded(String change, AttackBench x) {
        Due.refusesState("next() when " + change, x::next);
        Due.refusesState("label(0) when " + change, () -> x.label(0));
        Due.refusesState("next() again when " + change, x::next);
    }

    private static void listingEndsByChange() {
        sentence(16, LISTING);
        for (boolean told : new boolean[] {false, true}) {
            AttackBench comes = listed(told);
            comes.attack(2, 2, true);
            hasEnded("an attack came", comes);
            AttackBench goes = listed(told);
            goes.attack(0, 1, false);
            hasEnded("an attack went", goes);
            AttackBench goesAndComes = listed(told);
            goesAndComes.attack(0, 1, false);
            goesAndComes.attack(0, 1, true);
            hasEnded("an attack went and came", goesAndComes);
            AttackBench claimed = listed(told);
            claimed.claim();
            hasEnded("an argument came", claimed);
            AttackBench joined = listed(told);
            joined.joint(0, 1, 2);
            hasEnded("a joint attack came", joined);
            AttackBench supported = listed(told);
            supported.support(0, 0);
            hasEnded("a support came", supported);
            supported.start(COMPLETE);
            Due.is("next() after a new start", set(2), supported.next());
        }
    }

    private static void listingStaysWithoutChange() {
        sentence(16, LISTING);
        AttackBench x = listed(true);
        x.attack(0, 1, true);
        Due.is("label(2): the attack was there already", 1, x.label(2));
        Due.is("next(): the attack was there already", set(0, 2), x.next());
        x.attack(2, 2, false);
        Due.is("label(1): the attack wasn't there anyway", 0, x.label(1));
        Due.is("next(): the attack wasn't there anyway", set(1, 2), x.next());
        x.attack(1, 0, true);
        x.attack(0, 2, false);
        Due.is("next() at the end", NONE, x.next());
        AttackBench early = listed(false);
        early.attack(1, 0, true);
        early.attack(2, 0, false);
        Due.is("next(): nothing changed since start", set(2), early.next());
        asksAll(early);
        Due.is("label(2) after all questions", 1, early.label(2));
        Due.is("next() after all questions", set(0, 2), early.next());
    }

    private static void asksAll(AttackBench x) {
        x.attacks(0, 1);
        x.arguments();
        x.isFree(3);
        x.is(STAGE, 1);
        x.attackedBy(1);
        x.defendedBy(1);
        x.grounded();
        x.round(0);
        x.ideal();
        x.count(ADMISSIBLE);
        x.holds(STABLE, 0, true);
        x.dialogue(2);
        x.move(0, 0);
        x.circle(0);
        x.circles();
    }

    private static void labelsAre(String name, AttackBench x, int... due) {
        for (int a = 0; a < due.length; a++) {
            Due.is("label(" + a + ") in " + name, due[a], x.label(a));
        }
    }

    private static void labels() {
        sentence(17, "In the set that was told last: 1 if an argument is in it, 0 if it is attacked by it,"
            + " 2 otherwise.");
        AttackBench x = bench(4, 0, 1, 1, 0, 1, 2, 3, 3);
        x.start(COMPLETE);
        Due.is("next()", 0, x.next());
        labelsAre("the empty set", x, 2, 2, 2, 2);
        Due.is("next()", set(1), x.next());
        labelsAre("{1}", x, 0, 1, 0, 2);
        Due.is("next()", set(0, 2), x.next());
        labelsAre("{0, 2}", x, 1, 0, 1, 2);
        // 2 attacks the stage {0} and isn't attacked by it: it is open.
        AttackBench circle = bench(3, 0, 1, 1, 2, 2, 0);
        circle.start(STAGE);
        circle.next();
        labelsAre("the stage {0}", circle, 1, 0, 2);
        AttackBench full = bench(MOST, 0, 11);
        full.start(PREFERRED);
        full.next();
        labelsAre("all but 11", full, 1, 1, 1, 1, 1, 1, 1, 1, 1, 1, 1, 0);
    }

    private static void labelOfNoneSuch() {
        sentence(17, "IllegalArgumentException: there is none such.");
        for (int size = 0; size <= MOST; size++) {
            AttackBench x = bench(size);
            x.start(COMPLETE);
            x.next();
            int next = size;
            Due.refusesArgument("label(" + next + ") of " + size, () -> x.label(next));
            Due.refusesArgument("label(-1) of " + size, () -> x.label(-1));
            if (size > 0) {
                Due.is("label of the last", 1, x.label(size - 1));
            }
        }
        AttackBench x = bench(2, 0, 1, 1, 0);
        for (int bad : NO_ARGUMENT) {
            Due.refusesArgument("label(" + bad + ") without a listing", () -> x.label(bad));
        }
        x.start(PREFERRED);
        x.next();
        for (int bad : NO_ARGUMENT) {
            Due.refusesArgument("label(" + bad + ")", () -> x.label(bad));
        }
        Due.is("label(1): refused labels left the set", 0, x.label(1));
        Due.is("next(): refused labels left the listing", 2, x.next());
    }

    private static void labelWithoutToldSet() {
        sentence(17, "IllegalStateException: no set was told by a listing that hasn't ended.");
        AttackBench x = bench(2, 0, 1, 1, 0);
        Due.refusesState("label(0) without a listing", () -> x.label(0));
        x.start(PREFERRED);
        Due.refusesState("label(0) before the first set", () -> x.label(0));
        x.next();
        Due.is("label(0) in {0}", 1, x.label(0));
        x.next();
        Due.is("label(0) in {1}", 0, x.label(0));
        x.next();
        Due.refusesState("label(0) at the end", () -> x.label(0));
        Due.refusesState("next() at the end", x::next);
        Due.refusesState("label(0) behind the end", () -> x.label(0));
        x.start(PREFERRED);
        Due.refusesState("label(0) in a new listing", () -> x.label(0));
        x.next();
        x.start(PREFERRED);
        Due.refusesState("label(0) in a new listing that began amid another", () -> x.label(0));
        x.next();
        x.claim();
        Due.refusesState("label(0) when an argument came", () -> x.label(0));
        Due.refusesState("label(2) of the one that came", () -> x.label(2));
        AttackBench none = bench(1, 0, 0);
        none.start(STABLE);
        Due.is("next() of none", NONE, none.next());
        Due.refusesState("label(0) if none was told", () -> none.label(0));
    }

    private static void countNoneToAll() {
        sentence(18, "How many sets there are of a kind.");
        Due.is("count(STABLE) of none", 0, bench(1, 0, 0).count(STABLE));
        Due.is("count(ADMISSIBLE) of all", 4096, bench(MOST).count(ADMISSIBLE));
        Due.is("count(COMPLETE) of a line", 1, line().count(COMPLETE));
        for (int kind = 0; kind < KINDS; kind++) {
            Due.is("count(" + kind + ") of no arguments", 1, new AttackBench().count(kind));
        }
        // Each of 12 attacks each other one: one or none can be held.
        AttackBench x = bench(MOST);
        for (int a = 0; a < MOST; a++) {
            for (int b = 0; b < MOST; b++) {
                if (a != b) {
                    x.attack(a, b, true);
                }
            }
        }
        int[] due = {13, 12, 12, 12, 13};
        for (int kind = 0; kind < KINDS; kind++) {
            Due.is("count(" + kind + ")", due[kind], x.count(kind));
        }
        x.attack(0, 0, true);
        Due.is("count(PREFERRED) when one attacks itself", 11, x.count(PREFERRED));
        x.attack(0, 0, false);
        Due.is("count(PREFERRED) when it no longer does", 12, x.count(PREFERRED));
    }

    private static void countOfNoKind() {
        sentence(18, "IllegalArgumentException: there is none such.");
        AttackBench x = bench(2, 0, 1, 1, 0);
        x.start(PREFERRED);
        x.next();
        for (int bad : NO_KIND) {
            Due.refusesArgument("count(" + bad + ")", () -> x.count(bad));
        }
        Due.is("next(): refused counts left the listing", 2, x.next());
        Due.refusesArgument("count(-1) on a new object", () -> new AttackBench().count(-1));
        Due.refusesArgument("count(5) on a new object", () -> new AttackBench().count(5));
    }

    private static void holdsOfNone() {
        sentence(19, "Whether an argument is in one of the sets of a kind (all false), or in all of them"
            + " (true, if there are none).");
        AttackBench none = bench(3, 0, 1, 1, 2, 2, 0);
        for (int a = 0; a < 3; a++) {
            Due.yes("holds(STABLE, " + a + ", true) of none", none.holds(STABLE, a, true));
            Due.no("holds(STABLE, " + a + ", false) of none", none.holds(STABLE, a, false));
            Due.no("holds(COMPLETE, " + a + ", true) of the empty set", none.holds(COMPLETE, a, true));
            Due.no("holds(COMPLETE, " + a + ", false) of the empty set", none.holds(COMPLETE, a, false));
            Due.yes("holds(STAGE, " + a + ", false) of one of three", none.holds(STAGE, a, false));
            Due.no("holds(STAGE, " + a + ", true) of one of three", none.holds(STAGE, a, true));
        }
        AttackBench full = bench(MOST, 0, 0);
        Due.yes("holds(STABLE, 11, true) of none", full.holds(STABLE, 11, true));
        Due.yes("holds(STABLE, 0, true) of none", full.holds(STABLE, 0, true));
        for (int kind : new int[] {COMPLETE, PREFERRED, STAGE}) {
            Due.yes("holds(" + kind + ", 11, true) of the only set", full.holds(kind, 11, true));
            Due.no("holds(" + kind + ", 0, false)", full.holds(kind, 0, false));
        }
        Due.no("holds(ADMISSIBLE, 11, true): the empty set is one", full.holds(ADMISSIBLE, 11, true));
        Due.yes("holds(ADMISSIBLE, 11, false)", full.holds(ADMISSIBLE, 11, false));
    }

    private static void holdsOfNoneSuch() {
        sentence(19, "IllegalArgumentException: there is no such kind or argument.");
        AttackBench x = bench(2, 0, 1, 1, 0);
        x.start(PREFERRED);
        x.next();
        for (boolean all : new boolean[] {false, true}) {
            for (int bad : NO_KIND) {
                Due.refusesArgument("holds(" + bad + ", 0, " + all + ")", () -> x.holds(bad, 0, all));
            }
            for (int bad : NO_ARGUMENT) {
                Due.refusesArgument("holds(0, " + bad + ", " + all + ")", () -> x.holds(0, bad, all));
            }
            Due.refusesArgument("holds(-1, -1, " + all + ")", () -> x.holds(-1, -1, all));
            Due.refusesArgument("holds(0, 2, " + all + ") of two", () -> x.holds(0, 2, all));
            AttackBench none = bench(1, 0, 0);
            Due.refusesArgument("holds(STABLE, 1, " + all + ") of no sets", () -> none.holds(STABLE, 1, all));
            Due.refusesArgument("holds(0, 0, " + all + ") on a new object",
                () -> new AttackBench().holds(0, 0, all));
        }
        Due.is("next(): refused questions left the listing", 2, x.next());
    }

    private static void dialogueFirstMove() {
        sentence(20, "A DIALOGUE about an argument of the grounded set is a tree of MOVES: the first one is"
            + " the argument itself, said by the defender.");
        AttackBench x = bench(MOST);
        for (int a = 0; a < MOST; a++) {
            Due.is("dialogue(" + a + ") about one that isn't attacked", 1, x.dialogue(a));
            movesAre("it alone", x, new int[] {a}, new int[] {NONE});
        }
        AttackBench line = line();
        Due.is("dialogue(10) in a line", 11, line.dialogue(10));
        movesAre("a line", line, new int[] {10, 9, 8, 7, 6, 5, 4, 3, 2, 1, 0},
            new int[] {NONE, 0, 1, 2, 3, 4, 5, 6, 7, 8, 9});
    }

    private static void dialogueAnswers() {
        sentence(20, "To each of the defender's moves the other one says all that attack it, by their"
            + " numbers; to each of these the defender says one that attacks it, and is in the grounded"
            + " set: of the least round, of these the least number.");
        // 0 and 11 attack 5; 3 and 4 attack 0, 10 alone attacks 11.
        AttackBench numbers = bench(MOST, 11, 5, 0, 5, 4, 0, 3, 0, 10, 11);
        Due.is("dialogue(5)", 5, numbers.dialogue(5));
        movesAre("all by their numbers", numbers, new int[] {5, 0, 3, 11, 10}, new int[] {NONE, 0, 1, 0, 3});
        // 5 is attacked by 0, which attacks itself, by 1 of round 2, and by 4 of round 1.
        AttackBench least = bench(7, 5, 6, 0, 0, 0, 5, 3, 2, 2, 1, 1, 5, 4, 5);
        Due.is("round(1)", 2, least.round(1));
        Due.is("dialogue(6)", 3, least.dialogue(6));
        movesAre("the least round before the least number", least, new int[] {6, 5, 4}, new int[] {NONE, 0, 1});
        least.attack(4, 5, false);
        Due.is("dialogue(6) without 4", 5, least.dialogue(6));
        movesAre("one of the grounded set", least, new int[] {6, 5, 1, 2, 3}, new int[] {NONE, 0, 1, 2, 3});
        least.attack(1, 5, false);
        Due.is("dialogue(6) without 1", 0, least.dialogue(6));
        // The same attacker is said again wherever it attacks.
        AttackBench again = bench(4, 0, 1, 1, 2, 1, 3);
        again.support(2, 3);
        Due.is("dialogue(3)", 7, again.dialogue(3));
        movesAre("said again", again, new int[] {3, 1, 0, 4, 2, 1, 0}, new int[] {NONE, 0, 1, 0, 3, 4, 5});
    }

    private static void dialogueLengths() {
        sentence(20, "How many moves the dialogue about an argument has; 0 if it isn't in the grounded set;"
            + " NONE if there would be more than 500.");
        AttackBench x = bench(5, 0, 1, 2, 2, 3, 4, 4, 3);
        Due.is("dialogue(0)", 1, x.dialogue(0));
        Due.is("dialogue(1): attacked by 0", 0, x.dialogue(1));
        Due.is("dialogue(2): attacked by itself", 0, x.dialogue(2));
        Due.is("dialogue(3): open", 0, x.dialogue(3));
        // The longest that 12 arguments can have is told whole; WideTest has longer ones.
        AttackBench longest = longest();
        int[] due = {1, 5, 17, 53, 107, 0, 0, 0, 0, 0, 0, 0};
        for (int a = 0; a < MOST; a++) {
            Due.is("dialogue(" + a + ")", due[a], longest.dialogue(a));
        }
        longest.dialogue(4);
        Due.is("move(106, 0)", 0, longest.move(106, 0));
        Due.is("move(106, 1)", 105, longest.move(106, 1));
        Due.is("move(107, 0)", NONE, longest.move(107, 0));
    }

    private static void dialogueOfNoneSuch() {
        sentence(20, "IllegalArgumentException: there is none such.");
        AttackBench x = bench(3, 0, 1, 1, 2);
        x.dialogue(2);
        x.start(COMPLETE);
        for (int bad : NO_ARGUMENT) {
            Due.refusesArgument("dialogue(" + bad + ")", () -> x.dialogue(bad));
        }
        Due.refusesArgument("dialogue(3) of three", () -> x.dialogue(3));
        movesAre("refused dialogues left the last one", x, new int[] {2, 1, 0}, new int[] {NONE, 0, 1});
        Due.is("next(): refused dialogues left the listing", set(0, 2), x.next());
        Due.refusesArgument("dialogue(0) on a new object", () -> new AttackBench().dialogue(0));
        AttackBench full = bench(MOST);
        Due.is("dialogue(11)", 1, full.dialogue(11));
        Due.refusesArgument("dialogue(12)", () -> full.dialogue(12));
    }

    private static void moveNumbers() {
        sentence(21, "Moves are numbered in this order: a move, then all that comes of the first answer to"
            + " it, then all of the second one, and so on.");
        // 6 is attacked by 1, 3 and 5; 1 falls to 4, which is attacked by 7 and 9.
        AttackBench x = bench(11, 1, 6, 3, 6, 5, 6, 4, 1, 7, 4, 9, 4, 8, 7, 8, 9, 2, 3, 0, 5);
        Due.is("dialogue(6)", 11, x.dialogue(6));
        movesAre("depth first", x, new int[] {6, 1, 4, 7, 8, 9, 8, 3, 2, 5, 0},
            new int[] {NONE, 0, 1, 2, 3, 2, 5, 0, 7, 0, 9});
    }

    private static void moveOfNone() {
        sentence(21, MOVE);
        AttackBench x = bench(3, 0, 1, 1, 2);
        Due.is("move(0, 0) before a dialogue", NONE, x.move(0, 0));
        x.dialogue(2);
        int[][] due = {{2, NONE, 0}, {1, 0, 1}, {0, 1, 0}};
        for (int k = 0; k < 3; k++) {
            for (int what = 0; what < 3; what++) {
                Due.is("move(" + k + ", " + what + ")", due[k][what], x.move(k, what));
            }
            for (int bad : NO_WHAT) {
                Due.is("move(" + k + ", " + bad + ")", NONE, x.move(k, bad));
            }
        }
        for (int bad : new int[] {-1, 3, 4, 499, 500, 501, Integer.MIN_VALUE, Integer.MAX_VALUE}) {
            for (int what = -1; what < 4; what++) {
                Due.is("move(" + bad + ", " + what + ")", NONE, x.move(bad, what));
            }
        }
        x.dialogue(1);
        for (int what = 0; what < 3; what++) {
            Due.is("move(0, " + what + ") if that was 0", NONE, x.move(0, what));
        }
        x.dialogue(0);
        movesAre("the one that was asked for last", x, new int[] {0}, new int[] {NONE});
        Due.is("move(1, 0): no move of the one before", NONE, x.move(1, 0));
    }

    private static void moveStays() {
        sentence(21, MOVE);
        int[] said = {2, 1, 0};
        int[] answered = {NONE, 0, 1};
        AttackBench x = bench(3, 0, 1, 1, 2);
        x.dialogue(2);
        x.attack(0, 1, false);
        movesAre("an attack went", x, said, answered);
        x.attack(2, 2, true);
        movesAre("an attack came", x, said, answered);
        x.claim();
        movesAre("an argument came", x, said, answered);
        x.joint(0, 1, 2);
        x.support(0, 1);
        movesAre("helpers came", x, said, answered);
        asksAllButDialogue(x);
        movesAre("other questions were asked", x, said, answered);
        Due.is("dialogue(2): now it isn't grounded", 0, x.dialogue(2));
        Due.is("move(0, 0)", NONE, x.move(0, 0));
    }

    private static void asksAllButDialogue(AttackBench x) {
        x.grounded();
        x.round(0);
        x.ideal();
        x.circles();
        x.count(STAGE);
        x.start(COMPLETE);
        x.next();
    }

    private static void circleAloneAndWhole() {
        sentence(22, "A CIRCLE is a greatest set of arguments of which each can be come to from each other"
            + " along attacks (or one alone).");
        circlesAre("each alone", bench(3), 0, 1, 2);
        circlesAre("alone, though it attacks itself", bench(2, 0, 0, 0, 1), 0, 1);
        circlesAre("one way is no circle", bench(2, 0, 1), 0, 1);
        circlesAre("both ways", bench(2, 0, 1, 1, 0), 0, 0);
        circlesAre("two that touch in 0", bench(3, 0, 1, 1, 0, 0, 2, 2, 0), 0, 0, 0);
        circlesAre("two that touch are one", bench(5, 0, 1, 1, 2, 2, 0, 2, 3, 3, 4, 4, 2), 0, 0, 0, 0, 0);
        circlesAre("two with a bridge", bench(4, 0, 1, 1, 0, 1, 2, 2, 3, 3, 2), 0, 0, 1, 1);
        AttackBench whole = line();
        whole.attack(11, 0, true);
        circlesAre("all 12", whole, 0, 0, 0, 0, 0, 0, 0, 0, 0, 0, 0, 0);
        AttackBench against = bench(MOST);
        for (int a = 0; a < MOST; a++) {
            against.attack(a, (a + 7) % MOST, true);
        }
        circlesAre("all 12 in steps of 7", against, 0, 0, 0, 0, 0, 0, 0, 0, 0, 0, 0, 0);
    }

    private static void circleOrder() {
        sentence(22, "Circles are numbered from 0: the next one is, of those which no attack leads to but"
            + " from themselves and from numbered ones, that with the least argument.");
        circlesAre("against the numbers", bench(3, 2, 1, 1, 0), 2, 1, 0);
        circlesAre("by the least argument", bench(4, 0, 3, 3, 0, 1, 2, 2, 1), 0, 1, 1, 0);
        // When 3 is numbered 0 is ready, and comes before 1 and 2.
        circlesAre("the least that is ready", bench(4, 3, 0, 3, 1), 2, 3, 0, 1);
        circlesAre("what became ready comes at once", bench(4, 1, 0), 1, 0, 2, 3);
        circlesAre("all of a circle wait for one", bench(4, 0, 1, 1, 0, 3, 1), 2, 2, 0, 1);
        circlesAre("all of a circle wait for its least", bench(4, 0, 1, 1, 0, 3, 0), 2, 2, 0, 1);
        circlesAre("the least of a circle counts", bench(4, 0, 2, 2, 3, 3, 0), 0, 1, 0, 0);
        circlesAre("from themselves", bench(3, 0, 0, 0, 2, 2, 0, 1, 1), 0, 1, 0);
        AttackBench back = bench(MOST);
        for (int a = 1; a < MOST; a++) {
            back.attack(a, a - 1, true);
        }
        circlesAre("12 against the numbers", back, 11, 10, 9, 8, 7, 6, 5, 4, 3, 2, 1, 0);
    }

    private static void circleOfNoneSuch() {
        sentence(22, "The circle of an argument; NONE if there is none such.");
        AttackBench x = bench(MOST);
        for (int bad : NO_ARGUMENT) {
            Due.is("circle(" + bad + ")", NONE, x.circle(bad));
        }
        Due.is("circle(11)", 11, x.circle(11));
        for (int size = 0; size < MOST; size++) {
            AttackBench small = bench(size);
            Due.is("circle of the next number", NONE, small.circle(size));
            small.claim();
            Due.is("circle of it when it came", size, small.circle(size));
        }
    }

    private static void circlesNoneToAll() {
        sentence(23, "How many circles there are.");
        Due.is("circles() of none", 0, new AttackBench().circles());
        Due.is("circles() of one", 1, bench(1).circles());
        Due.is("circles() of one that attacks itself", 1, bench(1, 0, 0).circles());
        Due.is("circles() of 12", 12, bench(MOST).circles());
        AttackBench x = line();
        Due.is("circles() of a line", 12, x.circles());
        x.attack(11, 0, true);
        Due.is("circles() of a round", 1, x.circles());
        x.attack(5, 6, false);
        Due.is("circles() of a broken round", 12, x.circles());
        x.support(0, 1);
        Due.is("circles() after a refused support", 12, x.circles());
    }
}
