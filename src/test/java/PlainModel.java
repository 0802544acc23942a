import java.util.ArrayList;
import java.util.List;

/** The document's words, followed as plainly and slowly as can be: what the bench is compared with. */
final class PlainModel {
    static final int NONE = -1;
    static final long BAD_ARGUMENT = Long.MIN_VALUE;
    static final long BAD_STATE = Long.MIN_VALUE + 1;

    private final boolean[][] edge = new boolean[12][12];
    private int size = 0;
    private List<List<Integer>> kinds = null;
    private List<Integer> listing = null;
    private int told = NONE;
    private int at = 0;
    private List<int[]> moves = new ArrayList<>();

    private boolean has(int a) {
        return 0 <= a && a < size;
    }

    private boolean isSet(int set) {
        return 0 <= set && set < Math.pow(2, size);
    }

    private static boolean in(int a, int set) {
        return set / (int) Math.pow(2, a) % 2 == 1;
    }

    private static boolean inside(int small, int big) {
        for (int a = 0; a < 12; a++) {
            if (in(a, small) && !in(a, big)) {
                return false;
            }
        }
        return true;
    }

    private void change() {
        kinds = null;
        listing = null;
        told = NONE;
    }

    int claim() {
        if (size == 12) {
            return NONE;
        }
        change();
        return size++;
    }

    boolean attack(int a, int b, boolean on) {
        if (!has(a) || !has(b)) {
            return false;
        }
        if (edge[a][b] != on) {
            edge[a][b] = on;
            change();
        }
        return true;
    }

    boolean attacks(int a, int b) {
        return has(a) && has(b) && edge[a][b];
    }

    int joint(int a, int b, int c) {
        if (!has(a) || !has(b) || !has(c) || size + 3 > 12) {
            return NONE;
        }
        int h = claim();
        int i = claim();
        int j = claim();
        edge[a][h] = true;
        edge[b][i] = true;
        edge[h][j] = true;
        edge[i][j] = true;
        edge[j][c] = true;
        return h;
    }

    int support(int a, int b) {
        if (!has(a) || !has(b) || size + 1 > 12) {
            return NONE;
        }
        int h = claim();
        edge[a][h] = true;
        edge[h][b] = true;
        return h;
    }

    int arguments() {
        return size;
    }

    private boolean setAttacks(int set, int b) {
        for (int a = 0; a < size; a++) {
            if (in(a, set) && edge[a][b]) {
                return true;
            }
        }
        return false;
    }

    private boolean defends(int set, int a) {
        for (int b = 0; b < size; b++) {
            if (edge[b][a] && !setAttacks(set, b)) {
                return false;
            }
        }
        return true;
    }

    private int range(int set) {
        int range = 0;
        for (int a = 0; a < size; a++) {
            if (in(a, set) || setAttacks(set, a)) {
                range += (int) Math.pow(2, a);
            }
        }
        return range;
    }

    private boolean free(int set) {
        for (int a = 0; a < size; a++) {
            if (in(a, set) && setAttacks(set, a)) {
                return false;
            }
        }
        return true;
    }

    boolean isFree(int set) {
        return isSet(set) && free(set);
    }

    int attackedBy(int set) {
        if (!isSet(set)) {
            return NONE;
        }
        int sum = 0;
        for (int a = 0; a < size; a++) {
            sum += setAttacks(set, a) ? (int) Math.pow(2, a) : 0;
        }
        return sum;
    }

    int defendedBy(int set) {
        if (!isSet(set)) {
            return NONE;
        }
        int sum = 0;
        for (int a = 0; a < size; a++) {
            sum += defends(set, a) ? (int) Math.pow(2, a) : 0;
        }
        return sum;
    }

    private List<List<Integer>> kinds() {
        if (kinds == null) {
            List<Integer> free = new ArrayList<>();
            List<Integer> ranges = new ArrayList<>();
            List<Integer> admissible = new ArrayList<>();
            List<Integer> complete = new ArrayList<>();
            List<Integer> stable = new ArrayList<>();
            for (int set = 0; isSet(set); set++) {
                if (free(set)) {
                    free.add(set);
                    ranges.add(range(set));
                    int defended = defendedBy(set);
                    if (inside(set, defended)) {
                        admissible.add(set);
                        if (inside(defended, set)) {
                            complete.add(set);
                        }
                    }
                    if (!isSet(range(set) + 1)) {
                        stable.add(set);
                    }
                }
            }
            kinds = List.of(complete, greatest(admissible, admissible), stable,
                greatest(free, ranges), admissible);
        }
        return kinds;
    }

    /** Those whose measure is in no measure but the same one. */
    private static List<Integer> greatest(List<Integer> sets, List<Integer> measures) {
        List<Integer> best = new ArrayList<>();
        for (int i = 0; i < sets.size(); i++) {
            int mine = measures.get(i);
            boolean top = true;
            for (int j = 0; j < sets.size() && top; j++) {
                int other = measures.get(j);
                top = mine == other || (mine & ~other) != 0;
            }
            if (top) {
                best.add(sets.get(i));
            }
        }
        return best;
    }

    boolean is(int kind, int set) {
        return 0 <= kind && kind <= 4 && isSet(set) && kinds().get(kind).contains(set);
    }

    int grounded() {
        for (int least : kinds().get(0)) {
            boolean inAll = true;
            for (int other : kinds().get(0)) {
                inAll &= inside(least, other);
            }
            if (inAll) {
                return least;
            }
        }
        throw new AssertionError("no least complete set");
    }

    int round(int a) {
        if (!has(a) || !in(a, grounded())) {
            return 0;
        }
        boolean attacked = false;
        for (int b = 0; b < size; b++) {
            attacked |= edge[b][a];
        }
        if (!attacked) {
            return 1;
        }
        int[] known = roundsUpTo(12);
        return known[a];
    }

    /** The rounds, found one after the other by the words of the document. */
    private int[] roundsUpTo(int most) {
        int[] found = new int[12];
        for (int r = 0; r < most; r++) {
            int[] earlier = found.clone();
            for (int a = 0; a < size; a++) {
                boolean ready = found[a] == 0;
                for (int b = 0; b < size; b++) {
                    if (edge[b][a]) {
                        boolean fallen = false;
                        for (int c = 0; c < size; c++) {
                            fallen |= edge[c][b] && earlier[c] != 0;
                        }
                        ready &= fallen;
                    }
                }
                if (ready) {
                    found[a] = r + 1;
                }
            }
        }
        return found;
    }

    int ideal() {
        List<Integer> fit = new ArrayList<>();
        for (int set : kinds().get(4)) {
            boolean inEach = true;
            for (int preferred : kinds().get(1)) {
                inEach &= inside(set, preferred);
            }
            if (inEach) {
                fit.add(set);
            }
        }
        List<Integer> best = greatest(fit, fit);
        if (best.size() != 1) {
            throw new AssertionError("no one ideal set");
        }
        return best.get(0);
    }

    long start(int kind) {
        if (kind < 0 || kind > 4) {
            return BAD_ARGUMENT;
        }
        listing = kinds().get(kind);
        at = 0;
        told = NONE;
        return 0;
    }

    long next() {
        if (listing == null) {
            return BAD_STATE;
        }
        if (at == listing.size()) {
            listing = null;
            told = NONE;
            return NONE;
        }
        told = listing.get(at++);
        return told;
    }

    long label(int a) {
        if (!has(a)) {
            return BAD_ARGUMENT;
        }
        if (told == NONE) {
            return BAD_STATE;
        }
        return in(a, told) ? 1 : setAttacks(told, a) ? 0 : 2;
    }

    long count(int kind) {
        return kind < 0 || kind > 4 ? BAD_ARGUMENT : kinds().get(kind).size();
    }

    long holds(int kind, int a, boolean all) {
        if (kind < 0 || kind > 4 || !has(a)) {
            return BAD_ARGUMENT;
        }
        int with = 0;
        for (int set : kinds().get(kind)) {
            with += in(a, set) ? 1 : 0;
        }
        return (all ? with == kinds().get(kind).size() : with > 0) ? 1 : 0;
    }

    long dialogue(int a) {
        if (!has(a)) {
            return BAD_ARGUMENT;
        }
        moves = new ArrayList<>();
        if (in(a, grounded())) {
            defend(a, NONE, roundsUpTo(12));
        }
        if (moves.size() > 500) {
            moves = new ArrayList<>();
            return NONE;
        }
        return moves.size();
    }

    private void defend(int a, int answered, int[] rounds) {
        int mine = moves.size();
        moves.add(new int[] {a, answered, 0});
        for (int b = 0; b < size; b++) {
            if (edge[b][a]) {
                int theirs = moves.size();
                moves.add(new int[] {b, mine, 1});
                int reply = NONE;
                for (int r = 12; r >= 1; r--) {
                    for (int c = size - 1; c >= 0; c--) {
                        reply = edge[c][b] && rounds[c] == r ? c : reply;
                    }
                }
                defend(reply, theirs, rounds);
            }
        }
    }

    int move(int k, int what) {
        return k < 0 || k >= moves.size() || what < 0 || what > 2 ? NONE : moves.get(k)[what];
    }

    private boolean comesTo(int a, int b, int steps) {
        boolean[] seen = new boolean[12];
        seen[a] = true;
        for (int k = 0; k < steps; k++) {
            for (int c = 0; c < size; c++) {
                for (int d = 0; d < size; d++) {
                    seen[d] |= seen[c] && edge[c][d];
                }
            }
        }
        return seen[b];
    }

    private int[] circleNumbers() {
        int[] number = new int[12];
        java.util.Arrays.fill(number, NONE);
        boolean[][] same = new boolean[12][12];
        for (int a = 0; a < size; a++) {
            for (int b = 0; b < size; b++) {
                same[a][b] = comesTo(a, b, 12) && comesTo(b, a, 12);
            }
        }
        for (int k = 0; k < size; k++) {
            int chosen = NONE;
            for (int a = size - 1; a >= 0; a--) {
                boolean ready = number[a] == NONE;
                for (int b = 0; b < size; b++) {
                    for (int c = 0; c < size; c++) {
                        ready &= !(edge[c][b] && same[a][b]) || same[a][c] || number[c] != NONE;
                    }
                }
                chosen = ready ? a : chosen;
            }
            for (int a = 0; a < size && chosen != NONE; a++) {
                number[a] = same[chosen][a] ? k : number[a];
            }
        }
        return number;
    }

    int circle(int a) {
        return has(a) ? circleNumbers()[a] : NONE;
    }

    int circles() {
        int most = NONE;
        for (int number : circleNumbers()) {
            most = Math.max(most, number);
        }
        return most + 1;
    }
}
