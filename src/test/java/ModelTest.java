import java.util.Arrays;
import java.util.Random;

/** Promises 1 to 18: long runs of calls, each answer held against the slow model. */
public final class ModelTest {
    private static final Check CHECK = new Check();
    private static final int CALLS = 512;
    private static final String[] NAMES = {
        "secret", "face", "shared", "agreed", "mix", "sealed", "signed", "row", "alter", "swap", "part", "give",
        "derived", "same", "good", "about", "count"
    };
    private static final int[] EDGES = {
        Integer.MIN_VALUE, -2, -1, 0, 1, 3, 4, 5, 6, 7, 8, 9, 10, 63, 64, 9999, 10000, Integer.MAX_VALUE
    };
    /** How many of a hundred calls are of each method, in three sorts of runs. */
    private static final int[][] SHARES = {
        {6, 6, 6, 6, 6, 6, 6, 6, 6, 6, 6, 6, 6, 6, 5, 6, 5},
        {10, 8, 6, 6, 8, 20, 8, 2, 2, 8, 2, 6, 6, 3, 1, 1, 3},
        {4, 10, 1, 1, 3, 2, 2, 8, 28, 20, 2, 2, 2, 4, 8, 2, 1}
    };

    private final Random random;
    private final int registers;
    private final int[] shares;

    private ModelTest(int run) {
        random = new Random(run);
        registers = new int[] {6, 12, 24, 64}[run % 4];
        shares = SHARES[run / 4 % SHARES.length];
    }

    public static void main(String[] args) {
        for (int run = 0; run < 360; run++) {
            new ModelTest(run).play(run);
        }
        CHECK.end();
    }

    private void play(int run) {
        TermSpread spread = new TermSpread();
        Model model = new Model();
        for (int i = 0; i < CALLS; i++) {
            int method = i < 4 ? 0 : pickMethod();
            int[] a = pickArguments(method);
            String call = "run " + run + ", call " + i + ": " + NAMES[method] + Arrays.toString(a);
            CHECK.due(call, ask(spread, method, a), model.call(method, a));
        }
    }

    private int pickMethod() {
        int at = random.nextInt(Arrays.stream(shares).sum());
        int method = 0;
        while (at >= shares[method]) {
            at -= shares[method];
            method++;
        }
        return method;
    }

    private int[] pickArguments(int method) {
        int[] a = new int[4];
        for (int i = 0; i < 4; i++) {
            a[i] = random.nextInt(registers);
        }
        switch (method) {
            case 4 -> {
                a[1] = random.nextInt(3);
                a[3] = random.nextInt(3) == 0 ? -1 : a[3];
            }
            case 7 -> a[1] = 1 + random.nextInt(7);
            case 8 -> {
                a[2] = random.nextInt(5);
                a[3] = a[2] == 4 ? 1 + random.nextInt(7) : EDGES[3 + random.nextInt(4)];
            }
            case 9 -> {
                a[2] = random.nextInt(4);
                a[3] = random.nextInt(3) == 0 ? -1 : a[3];
            }
            case 10 -> a[2] = random.nextInt(10);
            case 15 -> a[1] = random.nextInt(6);
            case 16 -> a[0] = random.nextInt(2);
            default -> { }
        }
        if (random.nextInt(20) == 0) {
            a[random.nextInt(4)] = EDGES[random.nextInt(EDGES.length)];
        }
        return a;
    }

    private static int ask(TermSpread t, int method, int[] a) {
        return switch (method) {
            case 0 -> t.secret(a[0]);
            case 1 -> t.face(a[0], a[1]);
            case 2 -> t.shared(a[0], a[1], a[2]);
            case 3 -> t.agreed(a[0], a[1], a[2]);
            case 4 -> t.mix(a[0], a[1], a[2], a[3]);
            case 5 -> t.sealed(a[0], a[1], a[2], a[3]);
            case 6 -> t.signed(a[0], a[1], a[2]);
            case 7 -> t.row(a[0], a[1]);
            case 8 -> t.alter(a[0], a[1], a[2], a[3]);
            case 9 -> t.swap(a[0], a[1], a[2], a[3]);
            case 10 -> t.part(a[0], a[1], a[2]);
            case 11 -> t.give(a[0]);
            case 12 -> t.derived(a[0]);
            case 13 -> t.same(a[0], a[1]);
            case 14 -> t.good(a[0]);
            case 15 -> t.about(a[0], a[1]);
            default -> t.count(a[0]);
        };
    }
}
