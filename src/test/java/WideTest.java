import java.lang.reflect.Method;
import java.nio.file.Files;
import java.nio.file.Path;

/**
 * Promise 20, 'NONE if there would be more than 500', and promise 21, 'none, if that was 0 or NONE'.
 *
 * <p>No dialogue of 12 arguments has more than 107 moves, so no call can show these sentences. The
 * same source, but for its bound on the arguments, can: this test compiles it with room for 20.
 * A source that words its bound in another way can't be widened: the test says so, and passes.
 */
public final class WideTest {
    private static final String CLASS = "AttackBench";
    private static final String BOUND = "MOST_ARGUMENTS = 12;";
    private static final String WIDE_BOUND = "MOST_ARGUMENTS = 20;";
    private static final int NONE = -1;

    // Defenders 0 .. 4 of the rounds 1 .. 5. Each of 5 .. 17 falls to one of them and attacks all
    // later ones, which makes (1 + moves) 2, 4, 20, 100 and 500. 18 falls to 4 and attacks 19.
    private static final int[] FALLS_TO = {0, 1, 1, 1, 1, 2, 2, 2, 2, 3, 3, 3, 3};
    private static final int DEFENDERS = 5;

    private final Object bench;

    private WideTest(Class<?> type) throws ReflectiveOperationException {
        bench = type.getConstructor().newInstance();
    }

    public static void main(String[] args) throws Exception {
        String source = args.length > 0 ? Files.readString(Path.of(args[0])) : "";
        if (!source.contains(BOUND)) {
            System.out.println("the source has no '" + BOUND + "' that could be widened: nothing was tested");
            return;
        }
        try (Compiled wide = Compiled.of(CLASS, source.replace(BOUND, WIDE_BOUND))) {
            new WideTest(wide.get(CLASS)).run();
        }
        Due.close();
    }

    private void run() throws ReflectiveOperationException {
        for (int a = 0; a < 20; a++) {
            Due.is("claim()", a, call("claim"));
        }
        for (int i = 0; i < FALLS_TO.length; i++) {
            attack(FALLS_TO[i], DEFENDERS + i, true);
            for (int later = FALLS_TO[i] + 1; later < DEFENDERS; later++) {
                attack(DEFENDERS + i, later, true);
            }
        }
        attack(4, 18, true);
        attack(18, 19, true);
        upTo500();
        beyond500();
    }

    /** A dialogue has an odd number of moves: each attack on it brings its reply. */
    private void upTo500() throws ReflectiveOperationException {
        Due.about("promise 20, 'NONE if there would be more than 500'");
        int[] due = {1, 3, 19, 99, 499};
        for (int a = 0; a < DEFENDERS; a++) {
            Due.is("dialogue(" + a + ")", due[a], call("dialogue", a));
        }
        Due.is("move(498, 0)", 0, call("move", 498, 0));
        Due.is("move(498, 1)", 497, call("move", 498, 1));
        Due.is("move(499, 0)", NONE, call("move", 499, 0));
    }

    private void beyond500() throws ReflectiveOperationException {
        Due.is("round(19)", 6, call("round", 19));
        Due.is("dialogue(19) of 501 moves", NONE, call("dialogue", 19));
        Due.about("promise 21, 'none, if that was 0 or NONE'");
        for (int k : new int[] {0, 1, 498, 499, 500}) {
            for (int what = 0; what < 3; what++) {
                Due.is("move(" + k + ", " + what + ")", NONE, call("move", k, what));
            }
        }
        attack(14, 19, true);
        Due.is("dialogue(19) of more moves", NONE, call("dialogue", 19));
        attack(18, 19, false);
        Due.is("dialogue(19) when it got shorter", 101, call("dialogue", 19));
        Due.is("move(100, 0)", 0, call("move", 100, 0));
        Due.is("move(101, 0)", NONE, call("move", 101, 0));
    }

    private void attack(int a, int b, boolean on) throws ReflectiveOperationException {
        Method method = bench.getClass().getMethod("attack", int.class, int.class, boolean.class);
        Due.yes("attack(" + a + ", " + b + ")", (Boolean) method.invoke(bench, a, b, on));
    }

    private int call(String name, int... numbers) throws ReflectiveOperationException {
        Class<?>[] types = new Class<?>[numbers.length];
        Object[] values = new Object[numbers.length];
        for (int i = 0; i < numbers.length; i++) {
            types[i] = int.class;
            values[i] = numbers[i];
        }
        return (Integer) bench.getClass().getMethod(name, types).invoke(bench, values);
    }
}
