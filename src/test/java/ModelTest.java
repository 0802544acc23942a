import java.util.Random;

/** Long runs of all calls, each answer compared with the plain model's. The seeds are fixed. */
public final class ModelTest {
    private static final int CALLS = 512;
    private static final int MOST_CALLS_AT_ONCE = 6;
    private static final int[] WILD = {
        -1, -2, 5, 12, 13, 31, 32, 33, 4095, 4096, Integer.MIN_VALUE, Integer.MAX_VALUE};

    private final Random random;
    private final AttackBench bench = new AttackBench();
    private final PlainModel model = new PlainModel();
    private final String name;
    private final int mostArguments;
    private final int changePercent;
    private int calls = 0;

    private ModelTest(int seed, int mostArguments, int changePercent) {
        this.random = new Random(seed);
        this.name = "seed " + seed;
        this.mostArguments = mostArguments;
        this.changePercent = changePercent;
    }

    public static void main(String[] args) {
        for (int seed = 0; seed < 1200; seed++) {
            new ModelTest(seed, 2 + seed % 6, 10 + seed % 50).run();
        }
        for (int seed = 2000; seed < 2040; seed++) {
            new ModelTest(seed, 12, 5).run();
        }
        for (int seed = 3000; seed < 3040; seed++) {
            new ModelTest(seed, 12, 5).runLayered();
        }
        Due.close();
    }

    private void run() {
        int density = 5 + random.nextInt(40);
        while (model.arguments() < mostArguments && random.nextInt(20) != 0) {
            claim();
        }
        for (int a = 0; a < model.arguments(); a++) {
            for (int b = 0; b < model.arguments(); b++) {
                if (random.nextInt(100) < density && random.nextInt(a == b ? 4 : 1) == 0) {
                    attack(a, b, true);
                }
            }
        }
        goOn();
    }

    /** Attacks from lesser to greater numbers alone: the grounded set is deep then. */
    private void runLayered() {
        while (model.arguments() < mostArguments) {
            claim();
        }
        int flip = random.nextInt(2) * 11;
        for (int a = 0; a < 12; a++) {
            for (int b = a + 1; b < 12; b++) {
                if (random.nextInt(b == a + 1 ? 2 : 5) == 0) {
                    attack(Math.abs(flip - a), Math.abs(flip - b), true);
                }
            }
        }
        goOn();
    }

    private void goOn() {
        while (calls + MOST_CALLS_AT_ONCE <= CALLS) {
            if (random.nextInt(100) < changePercent) {
                change();
            } else {
                ask(random.nextInt(19));
            }
        }
    }

    private int argument() {
        if (random.nextInt(12) == 0) {
            return WILD[random.nextInt(WILD.length)];
        }
        return random.nextInt(model.arguments() + (random.nextInt(8) == 0 ? 2 : 1));
    }

    private int kind() {
        return random.nextInt(12) == 0 ? WILD[random.nextInt(WILD.length)] : random.nextInt(5);
    }

    private int set() {
        int draw = random.nextInt(12);
        if (draw == 0) {
            return WILD[random.nextInt(WILD.length)];
        }
        int some = random.nextInt(1 << model.arguments());
        if (draw == 1) {
            return some | 1 << random.nextInt(32);
        }
        return draw < 7 ? some & random.nextInt(1 << model.arguments()) : some;
    }

    /** Every call of the bench is asked here once: nothing is promised after the 512th. */
    private void is(String call, long want, long got) {
        calls++;
        Due.is(name + ": " + call, want, got);
    }

    private static int bit(boolean b) {
        return b ? 1 : 0;
    }

    private void claim() {
        is("claim", model.claim(), bench.claim());
    }

    private void attack(int a, int b, boolean on) {
        is("attack " + a + " " + b + " " + on, bit(model.attack(a, b, on)), bit(bench.attack(a, b, on)));
    }

    private void change() {
        int a = argument();
        int b = argument();
        int c = argument();
        int draw = random.nextInt(20);
        if (draw == 0 && model.arguments() + 3 <= mostArguments || draw == 1 && mostArguments == 12) {
            is("joint " + a + " " + b + " " + c, model.joint(a, b, c), bench.joint(a, b, c));
        } else if (draw <= 2 && (model.arguments() < mostArguments || mostArguments == 12)) {
            is("support " + a + " " + b, model.support(a, b), bench.support(a, b));
        } else if (draw == 3 && (model.arguments() < mostArguments || mostArguments == 12)) {
            claim();
        } else {
            attack(a, b, random.nextInt(2) == 0);
        }
    }

    private void ask(int which) {
        int a = argument();
        int kind = kind();
        int set = set();
        boolean all = random.nextBoolean();
        switch (which) {
            case 0 -> is("attacks", bit(model.attacks(a, set)), bit(bench.attacks(a, set)));
            case 1 -> is("arguments", model.arguments(), bench.arguments());
            case 2 -> is("isFree " + set, bit(model.isFree(set)), bit(bench.isFree(set)));
            case 3 -> is("is " + kind + " " + set, bit(model.is(kind, set)), bit(bench.is(kind, set)));
            case 4 -> is("attackedBy " + set, model.attackedBy(set), bench.attackedBy(set));
            case 5 -> is("defendedBy " + set, model.defendedBy(set), bench.defendedBy(set));
            case 6 -> is("grounded", model.grounded(), bench.grounded());
            case 7 -> is("round " + a, model.round(a), bench.round(a));
            case 8 -> is("ideal", model.ideal(), bench.ideal());
            case 9 -> is("start " + kind, model.start(kind), start(kind));
            case 10, 11, 12 -> is("next", model.next(), next());
            case 13 -> is("label " + a, model.label(a), label(a));
            case 14 -> is("count " + kind, model.count(kind), count(kind));
            case 15 -> is("holds " + kind + " " + a + " " + all, model.holds(kind, a, all), holds(kind, a, all));
            case 16 -> is("dialogue " + a, model.dialogue(a), dialogue(a));
            case 17 -> moves();
            default -> {
                is("circle " + a, model.circle(a), bench.circle(a));
                is("circles", model.circles(), bench.circles());
            }
        }
    }

    private void moves() {
        // Most dialogues are short, so most moves that are asked for are early ones.
        int most = random.nextInt(4) == 0 ? 120 : 10;
        for (int i = 0; i < MOST_CALLS_AT_ONCE; i++) {
            int k = random.nextInt(most) - 1;
            int what = random.nextInt(5) - 1;
            is("move " + k + " " + what, model.move(k, what), bench.move(k, what));
        }
    }

    private long start(int kind) {
        try {
            bench.start(kind);
            return 0;
        } catch (IllegalArgumentException e) {
            return PlainModel.BAD_ARGUMENT;
        }
    }

    private long next() {
        try {
            return bench.next();
        } catch (IllegalStateException e) {
            return PlainModel.BAD_STATE;
        }
    }

    private long label(int a) {
        try {
            return bench.label(a);
        } catch (IllegalArgumentException e) {
            return PlainModel.BAD_ARGUMENT;
        } catch (IllegalStateException e) {
            return PlainModel.BAD_STATE;
        }
    }

    private long count(int kind) {
        try {
            return bench.count(kind);
        } catch (IllegalArgumentException e) {
            return PlainModel.BAD_ARGUMENT;
        }
    }

    private long holds(int kind, int a, boolean all) {
        try {
            return bit(bench.holds(kind, a, all));
        } catch (IllegalArgumentException e) {
            return PlainModel.BAD_ARGUMENT;
        }
    }

    private long dialogue(int a) {
        try {
            return bench.dialogue(a);
        } catch (IllegalArgumentException e) {
            return PlainModel.BAD_ARGUMENT;
        }
    }
}
