/** Each promise of the document: ordinary inputs, the edges that it names, and wrong inputs. */
public final class PromiseTest extends Benches {
    private PromiseTest() {
    }

    public static void main(String[] args) {
        newObject();
        claim();
        attack();
        attacks();
        joint();
        support();
        arguments();
        isFree();
        is();
        isStage();
        attackedBy();
        defendedBy();
        grounded();
        round();
        ideal();
        start();
        next();
        listingEnds();
        listingGoesOn();
        label();
        count();
        holds();
        dialogue();
        dialogueChoice();
        longestDialogue();
        move();
        moveStays();
        circle();
        circleOrder();
        circles();
        full();
        Due.close();
    }

    private static void newObject() {
        AttackBench x = new AttackBench();
        Due.is("NONE", -1, AttackBench.NONE);
        Due.is("new: arguments", 0, x.arguments());
        Due.refusesState("new: next", x::next);
        Due.refusesArgument("new: label", () -> x.label(0));
        Due.is("new: grounded", 0, x.grounded());
        Due.is("new: ideal", 0, x.ideal());
        Due.is("new: circles", 0, x.circles());
        Due.is("new: move", NONE, x.move(0, 0));
        Due.yes("new: the empty set is free", x.isFree(0));
        Due.no("new: set of none such", x.isFree(1));
        for (int kind = 0; kind < 5; kind++) {
            kindIs("new", x, kind, 0);
        }
        AttackBench other = new AttackBench();
        other.claim();
        Due.is("new: objects share nothing", 0, x.arguments());
    }

    private static void claim() {
        AttackBench x = new AttackBench();
        for (int a = 0; a < 12; a++) {
            Due.is("claim", a, x.claim());
        }
        Due.is("claim a 13th", NONE, x.claim());
        Due.is("claim a 13th again", NONE, x.claim());
        Due.is("claim: arguments", 12, x.arguments());
        attacksAre("claim", x);
        AttackBench y = bench(1, 0, 0);
        y.claim();
        attacksAre("claim beside an attack", y, 0, 0);
    }

    private static void attack() {
        AttackBench x = bench(3);
        Due.yes("attack comes", x.attack(0, 1, true));
        Due.yes("attack is there already", x.attack(0, 1, true));
        attacksAre("attack", x, 0, 1);
        Due.yes("attack on itself", x.attack(2, 2, true));
        Due.yes("attack back", x.attack(1, 0, true));
        attacksAre("attack", x, 0, 1, 2, 2, 1, 0);
        Due.yes("attack goes", x.attack(0, 1, false));
        Due.yes("attack isn't there anyway", x.attack(0, 1, false));
        attacksAre("attack", x, 2, 2, 1, 0);
        Due.no("attack by the next number", x.attack(3, 0, true));
        Due.no("attack on the next number", x.attack(0, 3, true));
        Due.no("attack of none such goes", x.attack(0, 3, false));
        for (int bad : NO_ARGUMENT) {
            Due.no("attack(" + bad + ", 0)", x.attack(bad, 0, true));
            Due.no("attack(0, " + bad + ")", x.attack(0, bad, true));
            Due.no("attack(2, " + bad + ") off", x.attack(2, bad, false));
            Due.no("attack(" + bad + ", 2) off", x.attack(bad, 2, false));
        }
        attacksAre("attack after wrong ones", x, 2, 2, 1, 0);
        x.claim();
        attacksAre("a refused attack doesn't wait", x, 2, 2, 1, 0);
    }

    private static void attacks() {
        AttackBench x = bench(2, 0, 1);
        Due.yes("attacks", x.attacks(0, 1));
        Due.no("attacks back", x.attacks(1, 0));
        Due.no("attacks itself", x.attacks(0, 0));
        Due.no("attacks the next number", x.attacks(0, 2));
        Due.no("attacks from the next number", x.attacks(2, 1));
        for (int bad : NO_ARGUMENT) {
            Due.no("attacks(" + bad + ", 1)", x.attacks(bad, 1));
            Due.no("attacks(0, " + bad + ")", x.attacks(0, bad));
        }
        Due.no("attacks(0, 33) is none", x.attacks(0, 33));
    }

    private static void joint() {
        AttackBench x = bench(3);
        Due.is("joint", 3, x.joint(0, 1, 2));
        Due.is("joint: arguments", 6, x.arguments());
        attacksAre("joint", x, 0, 3, 1, 4, 3, 5, 4, 5, 5, 2);
        AttackBench alone = bench(2);
        Due.is("joint of one alone", 2, alone.joint(0, 0, 1));
        attacksAre("joint of one alone", alone, 0, 2, 0, 3, 2, 4, 3, 4, 4, 1);
        AttackBench own = bench(2);
        Due.is("joint on one of both", 2, own.joint(0, 1, 1));
        attacksAre("joint on one of both", own, 0, 2, 1, 3, 2, 4, 3, 4, 4, 1);
        AttackBench self = bench(1);
        Due.is("joint on itself alone", 1, self.joint(0, 0, 0));
        attacksAre("joint on itself alone", self, 0, 1, 0, 2, 1, 3, 2, 3, 3, 0);
        AttackBench fits = bench(9);
        Due.is("joint up to 12", 9, fits.joint(8, 0, 4));
        Due.is("joint: 12", 12, fits.arguments());
        for (int size = 10; size <= 12; size++) {
            AttackBench tight = bench(size);
            Due.is("joint beyond 12", NONE, tight.joint(0, 1, 2));
            Due.is("joint beyond 12 adds none", size, tight.arguments());
            attacksAre("joint beyond 12", tight);
        }
        AttackBench y = bench(2);
        for (int bad : NO_ARGUMENT) {
            Due.is("joint of " + bad, NONE, y.joint(bad, 0, 1));
            Due.is("joint with " + bad, NONE, y.joint(0, bad, 1));
            Due.is("joint on " + bad, NONE, y.joint(0, 1, bad));
        }
        Due.is("joint with its own helper", NONE, y.joint(2, 0, 1));
        Due.is("joint on its own helper", NONE, y.joint(0, 1, 4));
        Due.is("joint: none came", 2, y.arguments());
        attacksAre("joint of none such", y);
    }

    private static void support() {
        AttackBench x = bench(2);
        Due.is("support", 2, x.support(0, 1));
        attacksAre("support", x, 0, 2, 2, 1);
        Due.is("support by itself", 3, x.support(1, 1));
        attacksAre("support by itself", x, 0, 2, 2, 1, 1, 3, 3, 1);
        AttackBench fits = bench(11);
        Due.is("support up to 12", 11, fits.support(10, 0));
        attacksAre("support up to 12", fits, 10, 11, 11, 0);
        Due.is("support beyond 12", NONE, fits.support(0, 1));
        attacksAre("support beyond 12", fits, 10, 11, 11, 0);
        AttackBench y = bench(2);
        for (int bad : NO_ARGUMENT) {
            Due.is("support by " + bad, NONE, y.support(bad, 0));
            Due.is("support of " + bad, NONE, y.support(0, bad));
        }
        Due.is("support by its own helper", NONE, y.support(2, 0));
        Due.is("support of its own helper", NONE, y.support(0, 2));
        Due.is("support: none came", 2, y.arguments());
        attacksAre("support of none such", y);
    }

    private static void arguments() {
        AttackBench x = new AttackBench();
        x.claim();
        Due.is("arguments after claim", 1, x.arguments());
        x.attack(0, 0, true);
        Due.is("arguments after attack", 1, x.arguments());
        x.support(0, 0);
        Due.is("arguments after support", 2, x.arguments());
        x.joint(0, 1, 0);
        Due.is("arguments after joint", 5, x.arguments());
    }

    private static void isFree() {
        AttackBench x = bench(4, 0, 1, 2, 2);
        Due.yes("isFree empty", x.isFree(0));
        Due.yes("isFree 0", x.isFree(set(0)));
        Due.yes("isFree 0 3", x.isFree(set(0, 3)));
        Due.yes("isFree 1 3", x.isFree(set(1, 3)));
        Due.no("isFree 0 1", x.isFree(set(0, 1)));
        Due.no("isFree 0 1 3", x.isFree(set(0, 1, 3)));
        Due.no("isFree with one that attacks itself", x.isFree(set(2)));
        Due.no("isFree of a bit too high", x.isFree(set(4)));
        Due.no("isFree of 0 and a bit too high", x.isFree(set(0, 4)));
        Due.no("isFree(-1)", x.isFree(-1));
        Due.no("isFree of the sign bit", x.isFree(Integer.MIN_VALUE));
        Due.no("isFree(4096)", x.isFree(4096));
        Due.no("isFree(MAX)", x.isFree(Integer.MAX_VALUE));
    }

    private static void is() {
        // 0 and 1 attack each other, 1 leads a circle of three: 2, 3, 4.
        AttackBench x = bench(5, 0, 1, 1, 0, 1, 2, 2, 3, 3, 4, 4, 2);
        kindIs("is", x, COMPLETE, 0, set(0), set(1, 3));
        kindIs("is", x, PREFERRED, set(0), set(1, 3));
        kindIs("is", x, STABLE, set(1, 3));
        kindIs("is", x, STAGE, set(1, 3));
        kindIs("is", x, ADMISSIBLE, 0, set(0), set(1), set(1, 3));
        for (int bad : NO_KIND) {
            Due.no("is(" + bad + ", 0)", x.is(bad, 0));
            Due.no("is(" + bad + ", {1, 3})", x.is(bad, set(1, 3)));
        }
        AttackBench y = bench(3);
        for (int kind = 0; kind < 5; kind++) {
            Due.yes("is all", y.is(kind, 7));
            Due.no("is a bit too high", y.is(kind, 8));
            Due.no("is all and a bit too high", y.is(kind, 15));
            Due.no("is(-1)", y.is(kind, -1));
            Due.no("is the sign bit", y.is(kind, Integer.MIN_VALUE));
            Due.no("is all and the sign bit", y.is(kind, Integer.MIN_VALUE | 7));
            Due.no("is 4096", y.is(kind, 4096));
            Due.no("is MAX", y.is(kind, Integer.MAX_VALUE));
        }
    }

    private static void isStage() {
        AttackBench three = bench(3, 0, 1, 1, 2, 2, 0);
        kindIs("circle of three", three, COMPLETE, 0);
        kindIs("circle of three", three, PREFERRED, 0);
        kindIs("circle of three", three, STABLE);
        kindIs("circle of three", three, STAGE, 1, 2, 4);
        // Two sets of the same range are both stages; one that attacks itself is never reached.
        AttackBench same = bench(3, 0, 1, 1, 0, 2, 2);
        kindIs("same range", same, STAGE, set(0), set(1));
        kindIs("same range", same, STABLE);
        // 0 and 3 attack themselves; the ranges {1, 2, 3} and {0, 2, 3} are not in one another.
        AttackBench two = bench(4, 0, 1, 0, 2, 1, 2, 1, 3, 2, 3, 3, 3, 2, 0, 0, 0);
        kindIs("ranges", two, STAGE, set(1), set(2));
        AttackBench self = bench(1, 0, 0);
        kindIs("one that attacks itself", self, STAGE, 0);
        kindIs("one that attacks itself", self, COMPLETE, 0);
        kindIs("one that attacks itself", self, STABLE);
    }

    private static void attackedBy() {
        AttackBench x = bench(4, 0, 1, 0, 2, 3, 3, 1, 0);
        Due.is("attackedBy empty", 0, x.attackedBy(0));
        Due.is("attackedBy 0", set(1, 2), x.attackedBy(set(0)));
        Due.is("attackedBy 2", 0, x.attackedBy(set(2)));
        Due.is("attackedBy 0 1", set(0, 1, 2), x.attackedBy(set(0, 1)));
        Due.is("attackedBy all", 15, x.attackedBy(15));
        Due.is("attackedBy a bit too high", NONE, x.attackedBy(16));
        Due.is("attackedBy(-1)", NONE, x.attackedBy(-1));
        Due.is("attackedBy the sign bit", NONE, x.attackedBy(Integer.MIN_VALUE));
        Due.is("attackedBy 4096", NONE, x.attackedBy(4096));
    }

    private static void defendedBy() {
        AttackBench x = bench(5, 0, 1, 1, 2, 3, 2, 4, 3, 2, 2);
        Due.is("defendedBy empty", set(0, 4), x.defendedBy(0));
        Due.is("defendedBy 0", set(0, 4), x.defendedBy(set(0)));
        Due.is("defendedBy 0 4: one attacks itself", set(0, 4), x.defendedBy(set(0, 4)));
        Due.is("defendedBy all", 31 & ~set(1, 3), x.defendedBy(31));
        x.attack(2, 2, false);
        Due.is("defendedBy 0 4", set(0, 2, 4), x.defendedBy(set(0, 4)));
        Due.is("defendedBy a bit too high", NONE, x.defendedBy(32));
        Due.is("defendedBy(-1)", NONE, x.defendedBy(-1));
        Due.is("defendedBy the sign bit", NONE, x.defendedBy(Integer.MIN_VALUE));
        AttackBench both = bench(2, 0, 1, 1, 0);
        Due.is("defendedBy itself", set(0), both.defendedBy(set(0)));
        Due.is("defendedBy both", 3, both.defendedBy(3));
    }

    private static void grounded() {
        Due.is("grounded without attacks", 7, bench(3).grounded());
        Due.is("grounded of two", 0, bench(2, 0, 1, 1, 0).grounded());
        Due.is("grounded of a line", set(0, 2, 4), bench(5, 0, 1, 1, 2, 2, 3, 3, 4).grounded());
        Due.is("grounded against the numbers", set(1, 3), bench(4, 3, 2, 2, 1, 1, 0).grounded());
        Due.is("grounded beside one that attacks itself", set(1), bench(2, 0, 0).grounded());
        AttackBench x = bench(2, 0, 1);
        Due.is("grounded", set(0), x.grounded());
        x.attack(0, 1, false);
        Due.is("grounded when the attack went", 3, x.grounded());
    }

    private static void round() {
        AttackBench x = bench(7, 0, 1, 1, 2, 2, 3, 3, 4, 5, 3, 6, 6);
        Due.is("round of one that isn't attacked", 1, x.round(0));
        Due.is("round of one that is out", 0, x.round(1));
        Due.is("round 2", 2, x.round(2));
        Due.is("round by the quickest defence", 2, x.round(4));
        x.attack(5, 3, false);
        Due.is("round 3", 3, x.round(4));
        x.attack(6, 4, true);
        Due.is("round: no longer in", 0, x.round(4));
        x.attack(5, 6, true);
        Due.is("round: the slowest of the attackers counts", 3, x.round(4));
        Due.is("round of the next number", 0, x.round(7));
        for (int bad : NO_ARGUMENT) {
            Due.is("round(" + bad + ")", 0, x.round(bad));
        }
        AttackBench all = bench(3);
        Due.is("round of 0 at first", 1, all.round(0));
        all.attack(1, 0, true);
        Due.is("round of 0 when it is attacked", 0, all.round(0));
        all.attack(2, 1, true);
        Due.is("round of 0 when it is defended", 2, all.round(0));
        AttackBench line = bench(12, 0, 1, 1, 2, 2, 3, 3, 4, 4, 5, 5, 6, 6, 7, 7, 8, 8, 9, 9, 10, 10, 11);
        for (int a = 0; a < 12; a++) {
            Due.is("round in a line of 12", a % 2 == 0 ? a / 2 + 1 : 0, line.round(a));
        }
    }

    private static void ideal() {
        Due.is("ideal beyond the grounded set", set(0), bench(2, 0, 1, 1, 0, 1, 1).ideal());
        // 3 is in both preferred sets, but by itself it isn't defended.
        Due.is("ideal is admissible", 0, bench(4, 0, 1, 1, 0, 0, 2, 1, 2, 2, 3).ideal());
        // 4 needs no help; with it the common part has 3 and 4, of which 4 alone is admissible.
        Due.is("ideal in part", set(4), bench(5, 0, 1, 1, 0, 0, 2, 1, 2, 2, 3).ideal());
        Due.is("ideal without attacks", 7, bench(3).ideal());
        Due.is("ideal of a line", set(0, 2), bench(3, 0, 1, 1, 2).ideal());
        Due.is("ideal of a circle of three", 0, bench(3, 0, 1, 1, 2, 2, 0).ideal());
        AttackBench x = bench(2, 0, 1, 1, 0, 1, 1);
        Due.is("ideal", 1, x.ideal());
        x.attack(1, 1, false);
        Due.is("ideal when the attack went", 0, x.ideal());
    }

    private static void start() {
        AttackBench x = bench(2, 0, 1, 1, 0);
        for (int bad : NO_KIND) {
            Due.refusesArgument("start(" + bad + ")", () -> x.start(bad));
            Due.refusesState("next after a refused start", x::next);
        }
        x.start(PREFERRED);
        Due.is("start: first", 1, x.next());
        Due.refusesArgument("start(5) amid a listing", () -> x.start(5));
        Due.is("a refused start leaves the listing", 2, x.next());
        x.start(PREFERRED);
        Due.is("start anew", 1, x.next());
        x.start(COMPLETE);
        Due.is("start another kind", 0, x.next());
        Due.is("another kind goes on", 1, x.next());
        Due.is("another kind goes on", 2, x.next());
        Due.is("another kind ends", NONE, x.next());
    }

    private static void next() {
        AttackBench x = bench(3, 0, 1, 1, 0);
        Due.refusesState("next before start", x::next);
        x.start(ADMISSIBLE);
        int[] due = {0, 1, 2, 4, 5, 6, NONE};
        for (int want : due) {
            Due.is("next", want, x.next());
        }
        Due.refusesState("next after the end", x::next);
        Due.refusesState("next after the end again", x::next);
        x.start(STABLE);
        Due.is("next after a new start", 5, x.next());
        AttackBench none = bench(1, 0, 0);
        none.start(STABLE);
        Due.is("next of none", NONE, none.next());
        Due.refusesState("next of none again", none::next);
    }

    private static AttackBench amidListing() {
        AttackBench x = bench(3, 0, 1, 1, 0);
        x.start(COMPLETE);
        x.next();
        return x;
    }

    private static void listingEnds() {
        AttackBench comes = amidListing();
        comes.attack(2, 2, true);
        Due.refusesState("next when an attack came", comes::next);
        Due.refusesState("label when an attack came", () -> comes.label(0));
        AttackBench goes = amidListing();
        goes.attack(0, 1, false);
        Due.refusesState("next when an attack went", goes::next);
        Due.refusesState("label when an attack went", () -> goes.label(0));
        AttackBench back = amidListing();
        back.attack(0, 1, false);
        back.attack(0, 1, true);
        Due.refusesState("next when an attack went and came back", back::next);
        AttackBench claimed = amidListing();
        claimed.claim();
        Due.refusesState("next when an argument came", claimed::next);
        Due.refusesState("label when an argument came", () -> claimed.label(0));
        AttackBench jointly = amidListing();
        jointly.joint(0, 1, 2);
        Due.refusesState("next after joint", jointly::next);
        AttackBench supported = amidListing();
        supported.support(0, 1);
        Due.refusesState("next after support", supported::next);
        supported.start(COMPLETE);
        Due.is("next after a start then", set(2), supported.next());
        AttackBench before = bench(1);
        before.start(COMPLETE);
        before.claim();
        Due.refusesState("next when an argument came right after start", before::next);
    }

    private static void listingGoesOn() {
        AttackBench x = amidListing();
        x.attack(0, 1, true);
        x.attack(2, 2, false);
        x.attack(0, 3, true);
        x.attack(-1, 0, true);
        x.joint(0, 1, 3);
        x.support(3, 0);
        Due.is("label after changes of nothing", 1, x.label(2));
        x.grounded();
        x.ideal();
        x.count(STAGE);
        x.is(PREFERRED, 1);
        x.holds(ADMISSIBLE, 0, true);
        x.dialogue(0);
        x.circles();
        Due.is("next after questions and changes of nothing", set(0, 2), x.next());
        Due.is("next", set(1, 2), x.next());
        AttackBench full = bench(12);
        full.start(PREFERRED);
        full.claim();
        full.joint(0, 0, 0);
        full.support(0, 0);
        Due.is("next after comings that there was no room for", 4095, full.next());
    }

    private static void label() {
        AttackBench x = bench(4, 0, 1, 1, 0, 2, 2);
        Due.refusesState("label without a listing", () -> x.label(0));
        x.start(COMPLETE);
        Due.refusesState("label before the first set", () -> x.label(0));
        Due.is("label: next", set(3), x.next());
        int[] open = {2, 2, 2, 1};
        for (int a = 0; a < 4; a++) {
            Due.is("label(" + a + ") in {3}", open[a], x.label(a));
        }
        Due.is("label: next", set(0, 3), x.next());
        int[] first = {1, 0, 2, 1};
        for (int a = 0; a < 4; a++) {
            Due.is("label(" + a + ") in {0, 3}", first[a], x.label(a));
        }
        Due.refusesArgument("label of the next number", () -> x.label(4));
        for (int bad : NO_ARGUMENT) {
            Due.refusesArgument("label(" + bad + ")", () -> x.label(bad));
        }
        Due.is("label: next", set(1, 3), x.next());
        Due.is("label(0) in {1, 3}", 0, x.label(0));
        Due.is("label: end", NONE, x.next());
        Due.refusesState("label at the end", () -> x.label(0));
        Due.refusesArgument("label of none such at the end", () -> x.label(4));
        x.start(COMPLETE);
        x.next();
        x.start(PREFERRED);
        Due.refusesState("label when a new listing told none yet", () -> x.label(0));
        // A stage may leave out one that attacks into it.
        AttackBench three = bench(3, 0, 1, 1, 2, 2, 0);
        three.start(STAGE);
        three.next();
        Due.is("label of the stage's own", 1, three.label(0));
        Due.is("label of what it attacks", 0, three.label(1));
        Due.is("label of what attacks it", 2, three.label(2));
    }

    private static void count() {
        AttackBench x = bench(4, 0, 1, 1, 0, 2, 3, 3, 2);
        int[] due = {9, 4, 4, 4, 9};
        for (int kind = 0; kind < 5; kind++) {
            Due.is("count(" + kind + ")", due[kind], x.count(kind));
        }
        for (int bad : NO_KIND) {
            Due.refusesArgument("count(" + bad + ")", () -> x.count(bad));
        }
        x.attack(2, 3, false);
        Due.is("count when an attack went", 2, x.count(PREFERRED));
        x.claim();
        Due.is("count when an argument came", 2, x.count(STABLE));
        Due.is("count of all sets of 12", 4096, bench(12).count(ADMISSIBLE));
        Due.is("count of none", 0, bench(1, 0, 0).count(STABLE));
    }

    private static void holds() {
        AttackBench x = bench(4, 0, 1, 1, 0, 0, 2, 1, 2, 2, 3);
        Due.yes("holds 0 in one", x.holds(PREFERRED, 0, false));
        Due.no("holds 0 in all", x.holds(PREFERRED, 0, true));
        Due.yes("holds 3 in all", x.holds(PREFERRED, 3, true));
        Due.no("holds 2 in one", x.holds(PREFERRED, 2, false));
        Due.no("holds 3 in all complete ones", x.holds(COMPLETE, 3, true));
        Due.yes("holds 3 in one complete one", x.holds(COMPLETE, 3, false));
        Due.no("holds 3 in all admissible ones", x.holds(ADMISSIBLE, 3, true));
        Due.yes("holds 3 in all stable ones", x.holds(STABLE, 3, true));
        Due.yes("holds 3 in all stages", x.holds(STAGE, 3, true));
        AttackBench none = bench(3, 0, 1, 1, 2, 2, 0);
        Due.yes("holds in all of none", none.holds(STABLE, 1, true));
        Due.no("holds in one of none", none.holds(STABLE, 1, false));
        Due.yes("holds in one stage", none.holds(STAGE, 1, false));
        Due.no("holds in all stages", none.holds(STAGE, 1, true));
        for (int bad : NO_KIND) {
            Due.refusesArgument("holds of kind " + bad, () -> x.holds(bad, 0, true));
            Due.refusesArgument("holds of kind " + bad, () -> x.holds(bad, 0, false));
        }
        for (int bad : NO_ARGUMENT) {
            Due.refusesArgument("holds of argument " + bad, () -> x.holds(0, bad, true));
            Due.refusesArgument("holds of argument " + bad, () -> x.holds(0, bad, false));
        }
        Due.refusesArgument("holds of the next number", () -> none.holds(STABLE, 3, true));
        for (int kind = 0; kind < 5; kind++) {
            Due.yes("holds in one that has all", bench(2).holds(kind, 1, false));
        }
        Due.no("holds in all, with the empty one", bench(2).holds(ADMISSIBLE, 1, true));
    }

    private static void dialogue() {
        AttackBench x = bench(8, 0, 1, 1, 2, 2, 3, 3, 4, 5, 4, 6, 5, 7, 7);
        Due.is("dialogue about one that isn't attacked", 1, x.dialogue(0));
        movesAre("alone", x, new int[] {0}, new int[] {NONE});
        Due.is("dialogue about 2", 3, x.dialogue(2));
        movesAre("about 2", x, new int[] {2, 1, 0}, new int[] {NONE, 0, 1});
        Due.is("dialogue about 4", 7, x.dialogue(4));
        movesAre("about 4", x, new int[] {4, 3, 2, 1, 0, 5, 6}, new int[] {NONE, 0, 1, 2, 3, 0, 5});
        Due.is("dialogue about one that is out", 0, x.dialogue(3));
        Due.is("dialogue about one that is open", 0, x.dialogue(7));
        AttackBench ends = bench(12, 0, 5, 11, 5, 3, 0, 4, 11);
        Due.is("dialogue against 0 and 11", 5, ends.dialogue(5));
        movesAre("against 0 and 11", ends, new int[] {5, 0, 3, 11, 4}, new int[] {NONE, 0, 1, 0, 3});
        for (int bad : NO_ARGUMENT) {
            Due.refusesArgument("dialogue(" + bad + ")", () -> x.dialogue(bad));
        }
        Due.refusesArgument("dialogue about the next number", () -> x.dialogue(8));
        Due.refusesArgument("dialogue on a new bench", () -> new AttackBench().dialogue(0));
    }

    private static void dialogueChoice() {
        // 3 and 4 are of round 1, 2 is of round 2, 0 is in no round: all attack 5, which attacks 6.
        AttackBench x = bench(8, 7, 1, 1, 2, 2, 5, 4, 5, 3, 5, 5, 6, 0, 0, 0, 5);
        Due.is("round of 2", 2, x.round(2));
        Due.is("dialogue by the least round", 3, x.dialogue(6));
        movesAre("least round, least number", x, new int[] {6, 5, 3}, new int[] {NONE, 0, 1});
        x.attack(3, 5, false);
        Due.is("dialogue by the least round", 3, x.dialogue(6));
        movesAre("least round", x, new int[] {6, 5, 4}, new int[] {NONE, 0, 1});
        x.attack(4, 5, false);
        Due.is("dialogue by the one that is left", 5, x.dialogue(6));
        movesAre("the one that is left", x, new int[] {6, 5, 2, 1, 7}, new int[] {NONE, 0, 1, 2, 3});
    }

    private static void longestDialogue() {
        AttackBench x = longest();
        int[] due = {1, 5, 17, 53, 107};
        for (int a = 0; a < 5; a++) {
            Due.is("longest dialogue about " + a, due[a], x.dialogue(a));
        }
        Due.is("last move of the longest dialogue", 0, x.move(106, 0));
        Due.is("after the last move", NONE, x.move(107, 0));
        Due.is("each answer's place: 5, 0, 6, 0, 7, 1", 7, x.move(5, 0));
        Due.is("what it answers", 0, x.move(5, 1));
        Due.is("the reply's", 1, x.move(6, 0));
        Due.is("what comes of the reply", 5, x.move(7, 0));
        Due.is("what that answers", 6, x.move(7, 1));
    }

    private static void move() {
        AttackBench x = bench(3, 0, 1, 1, 2);
        Due.is("move before a dialogue", NONE, x.move(0, 0));
        x.dialogue(2);
        int[][] due = {{2, NONE, 0}, {1, 0, 1}, {0, 1, 0}};
        for (int k = 0; k < 3; k++) {
            for (int what = 0; what < 3; what++) {
                Due.is("move(" + k + ", " + what + ")", due[k][what], x.move(k, what));
            }
            for (int bad : new int[] {-1, 3, 32, Integer.MIN_VALUE, Integer.MAX_VALUE}) {
                Due.is("move(" + k + ", " + bad + ")", NONE, x.move(k, bad));
            }
        }
        for (int bad : new int[] {-1, 3, 499, 500, 501, Integer.MIN_VALUE, Integer.MAX_VALUE}) {
            for (int what = -1; what <= 3; what++) {
                Due.is("move(" + bad + ", " + what + ")", NONE, x.move(bad, what));
            }
        }
    }

    private static void moveStays() {
        AttackBench x = bench(3, 0, 1, 1, 2);
        x.dialogue(2);
        x.attack(0, 1, false);
        x.claim();
        x.joint(0, 1, 2);
        x.support(1, 1);
        x.grounded();
        movesAre("it stays what it was", x, new int[] {2, 1, 0}, new int[] {NONE, 0, 1});
        Due.refusesArgument("dialogue about none such", () -> x.dialogue(12));
        movesAre("a refused one changes nothing", x, new int[] {2, 1, 0}, new int[] {NONE, 0, 1});
        x.dialogue(0);
        movesAre("the last one counts", x, new int[] {0}, new int[] {NONE});
        Due.is("dialogue about one that is out", 0, x.dialogue(4));
        Due.is("no move of a dialogue that isn't", NONE, x.move(0, 0));
        Due.is("no side of a dialogue that isn't", NONE, x.move(0, 2));
    }

    private static void circle() {
        circlesAre("without attacks", bench(3), 0, 1, 2);
        circlesAre("on itself", bench(2, 0, 0), 0, 1);
        circlesAre("a circle of three", bench(3, 0, 1, 1, 2, 2, 0), 0, 0, 0);
        circlesAre("a circle of three, the other way", bench(3, 2, 1, 1, 0, 0, 2), 0, 0, 0);
        circlesAre("a circle through 0", bench(4, 3, 0, 0, 1, 1, 2, 2, 3), 0, 0, 0, 0);
        circlesAre("two that touch in 0", bench(3, 0, 1, 1, 0, 0, 2, 2, 0), 0, 0, 0);
        circlesAre("two circles", bench(4, 0, 2, 2, 0, 1, 3, 3, 1), 0, 1, 0, 1);
        circlesAre("two that touch", bench(3, 0, 1, 1, 0, 1, 2, 2, 1), 0, 0, 0);
        AttackBench x = bench(3, 0, 1, 1, 2, 2, 0);
        x.attack(2, 0, false);
        circlesAre("broken up", x, 0, 1, 2);
        Due.is("circle of the next number", NONE, x.circle(3));
        for (int bad : NO_ARGUMENT) {
            Due.is("circle(" + bad + ")", NONE, x.circle(bad));
        }
        Due.is("circle on a new bench", NONE, new AttackBench().circle(0));
    }

    private static void circleOrder() {
        circlesAre("against the numbers", bench(4, 3, 2, 2, 1, 1, 0), 3, 2, 1, 0);
        // 0 waits for 4; 1 and 3 are a circle; 2 comes of them.
        circlesAre("the least that is ready", bench(5, 4, 0, 1, 3, 3, 1, 3, 2), 3, 0, 1, 0, 2);
        // When 2 is numbered 0 is ready, and comes before 1's circle, which waited for nothing but 2.
        circlesAre("what became ready", bench(4, 2, 0, 2, 1, 1, 3, 3, 1), 1, 2, 0, 2);
        // All of a circle wait if one of them does.
        circlesAre("a circle waits", bench(4, 0, 1, 1, 0, 3, 1), 2, 2, 0, 1);
        circlesAre("one that attacks itself doesn't wait", bench(2, 0, 0, 0, 1), 0, 1);
    }

    private static void circles() {
        Due.is("circles of none", 0, new AttackBench().circles());
        Due.is("circles of 12", 12, bench(12).circles());
        AttackBench x = bench(12);
        for (int a = 0; a < 12; a++) {
            x.attack(a, (a + 5) % 12, true);
        }
        Due.is("circles of one round of 12", 1, x.circles());
        x.attack(3, 8, false);
        Due.is("circles when it is broken", 12, x.circles());
        Due.is("the one behind the break is first", 0, x.circle(8));
        Due.is("the one before the break is last", 11, x.circle(3));
    }

    private static void full() {
        // Four circles of three in which each attacks each: one or none of each can be held.
        AttackBench x = bench(12);
        for (int a = 0; a < 12; a++) {
            x.attack(a, a / 3 * 3 + (a + 1) % 3, true);
            x.attack(a, a / 3 * 3 + (a + 2) % 3, true);
        }
        int[] due = {256, 81, 81, 81, 256};
        for (int kind = 0; kind < 5; kind++) {
            Due.is("full: count(" + kind + ")", due[kind], x.count(kind));
        }
        x.start(STAGE);
        Due.is("full: first stage", set(0, 3, 6, 9), x.next());
        AttackBench free = bench(12);
        free.start(ADMISSIBLE);
        for (int set = 0; set < 480; set++) {
            Due.is("full: every set", set, free.next());
        }
        Due.is("full: grounded", 4095, free.grounded());
        Due.is("full: attackedBy all", 0, free.attackedBy(4095));
        Due.is("full: defendedBy none", 4095, free.defendedBy(0));
        Due.is("full: attackedBy 4096", NONE, free.attackedBy(4096));
        Due.yes("full: isFree", free.isFree(4095));
        Due.no("full: isFree 4096", free.isFree(4096));
        Due.no("full: is 4096", free.is(ADMISSIBLE, 4096));
    }
}
