/** Benches for the tests that extend it, and what can be asked of them in one go. */
abstract class Benches {
    static final int NONE = AttackBench.NONE;
    static final int COMPLETE = 0;
    static final int PREFERRED = 1;
    static final int STABLE = 2;
    static final int STAGE = 3;
    static final int ADMISSIBLE = 4;
    static final int KINDS = 5;
    static final int MOST = 12;

    // Shifts wrap at 32, so 32 and its like must not pass for 0.
    static final int[] NO_ARGUMENT = {
        -1, -12, -32, 12, 13, 31, 32, 33, 64, 4096, Integer.MIN_VALUE, Integer.MAX_VALUE};
    static final int[] NO_KIND = {
        -1, 5, 6, 31, 32, 36, -32, -28, Integer.MIN_VALUE, Integer.MAX_VALUE};

    /** A bench of so many arguments; each pair a, b of the list is an attack of a on b. */
    static AttackBench bench(int size, int... pairs) {
        AttackBench x = new AttackBench();
        for (int a = 0; a < size; a++) {
            x.claim();
        }
        for (int i = 0; i + 1 < pairs.length; i += 2) {
            x.attack(pairs[i], pairs[i + 1], true);
        }
        return x;
    }

    static int set(int... arguments) {
        int set = 0;
        for (int a : arguments) {
            set |= 1 << a;
        }
        return set;
    }

    /** All sets of a kind, by the listing, by is and by count. */
    static void kindIs(String name, AttackBench x, int kind, int... sets) {
        x.start(kind);
        for (int want : sets) {
            Due.is(name + ": next of kind " + kind, want, x.next());
        }
        Due.is(name + ": next at the end of kind " + kind, NONE, x.next());
        Due.is(name + ": count(" + kind + ")", sets.length, x.count(kind));
        int end = 1 << x.arguments();
        for (int set = 0; set < end; set++) {
            boolean due = false;
            for (int one : sets) {
                due |= one == set;
            }
            Due.is(name + ": is(" + kind + ", " + set + ")", due ? 1 : 0, x.is(kind, set) ? 1 : 0);
        }
    }

    static void attacksAre(String name, AttackBench x, int... pairs) {
        int size = x.arguments();
        for (int a = 0; a < size; a++) {
            for (int b = 0; b < size; b++) {
                boolean due = false;
                for (int i = 0; i + 1 < pairs.length; i += 2) {
                    due |= pairs[i] == a && pairs[i + 1] == b;
                }
                Due.is(name + ": attacks(" + a + ", " + b + ")", due ? 1 : 0, x.attacks(a, b) ? 1 : 0);
            }
        }
    }

    static void movesAre(String name, AttackBench x, int[] said, int[] answered) {
        for (int k = 0; k < said.length; k++) {
            Due.is(name + ": argument of move " + k, said[k], x.move(k, 0));
            Due.is(name + ": what move " + k + " answers", answered[k], x.move(k, 1));
            int side = answered[k] == NONE ? 0 : 1 - x.move(answered[k], 2);
            Due.is(name + ": side of move " + k, side, x.move(k, 2));
        }
        for (int what = 0; what < 3; what++) {
            Due.is(name + ": move after the last", NONE, x.move(said.length, what));
        }
    }

    static void circlesAre(String name, AttackBench x, int... due) {
        int most = -1;
        for (int a = 0; a < due.length; a++) {
            Due.is(name + ": circle(" + a + ")", due[a], x.circle(a));
            most = Math.max(most, due[a]);
        }
        Due.is(name + ": circles", most + 1, x.circles());
    }

    /**
     * Defenders 0 .. 4 of the rounds 1 .. 5; each of 5 .. 11 falls to one of them and attacks all
     * later ones: (1 + moves) doubles or triples from round to round. No dialogue of 12 arguments
     * is longer than the one about 4, of 107 moves.
     */
    static AttackBench longest() {
        int[] fallsTo = {0, 0, 1, 1, 2, 2, 3};
        AttackBench x = bench(MOST);
        for (int i = 0; i < fallsTo.length; i++) {
            x.attack(fallsTo[i], 5 + i, true);
            for (int later = fallsTo[i] + 1; later < 5; later++) {
                x.attack(5 + i, later, true);
            }
        }
        return x;
    }
}
