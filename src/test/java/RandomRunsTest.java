import java.util.Random;

/** Runs of up to 512 calls with fixed seeds: each answer, and the whole state by its digest, against the Model. */
public final class RandomRunsTest {
    private static final int RUNS = 400;
    private static final int CALLS = 512;

    /** How often each call is drawn, by kind of run; the order is that of the face. */
    private static final int[][] WEIGHTS = {
        {20, 14, 12, 8, 2, 2, 4, 2, 6, 1, 2, 2, 1, 1, 2, 2, 2, 2, 2, 2, 3, 1, 2, 1, 1, 1, 4},
        {30, 20, 10, 4, 1, 1, 3, 3, 0, 0, 0, 0, 1, 1, 1, 1, 1, 1, 1, 2, 4, 2, 2, 2, 1, 1, 4},
        {14, 10, 10, 10, 10, 14, 6, 2, 0, 0, 0, 0, 1, 1, 2, 2, 3, 2, 2, 1, 2, 2, 2, 2, 2, 2, 4},
        {1, 1, 1, 1, 1, 1, 1, 1, 60, 1, 8, 6, 1, 1, 2, 1, 1, 1, 1, 1, 1, 1, 1, 1, 1, 1, 3},
        {10, 8, 8, 4, 1, 1, 3, 1, 0, 0, 0, 0, 6, 6, 14, 1, 1, 1, 2, 1, 1, 1, 1, 1, 1, 1, 4},
    };

    private final TailBlocks program = new TailBlocks();
    private final Model model = new Model();
    private final Random random;
    private final int[] weights;
    private final int largest;

    private RandomRunsTest(int seed) {
        random = new Random(seed);
        weights = WEIGHTS[seed % WEIGHTS.length];
        largest = new int[] {15, 40, 100, 200}[seed / WEIGHTS.length % 4];
    }

    public static void main(String[] args) {
        for (int seed = 0; seed < RUNS; seed++) {
            String wrong = new RandomRunsTest(seed).play();
            if (wrong != null) {
                System.out.println("seed " + seed + ": " + wrong);
                System.exit(1);
            }
        }
        System.out.println(RUNS + " random runs agree with the model");
    }

    private String play() {
        StringBuilder told = new StringBuilder();
        // A digest after every call could hide what one call leaves over for the next.
        int between = 1 + random.nextInt(2) * 7;
        for (int n = 0; n + n / between < CALLS - 1; n++) {
            int call = draw();
            int a = first(call);
            int b = second(call);
            if (call == 8 && random.nextInt(12) != 0) {
                a = likelyCode(a);
            }
            String due = answer(true, call, a, b);
            String got = answer(false, call, a, b);
            told.append(call).append('(').append(a).append(',').append(b).append(")=").append(due).append(' ');
            if (!due.equals(got)) {
                return told + "but got " + got;
            }
            if (n % between == 0 && model.digest() != program.digest()) {
                return told + "and then the digest";
            }
        }
        return null;
    }

    private int draw() {
        int sum = 0;
        for (int w : weights) {
            sum += w;
        }
        int at = random.nextInt(sum);
        int call = 0;
        while (at >= weights[call]) {
            at -= weights[call];
            call++;
        }
        return call;
    }

    private int odd(int otherwise) {
        int[] odd = {-1, 0, 200, 201, 16, 15, 24, 10, Integer.MAX_VALUE, Integer.MIN_VALUE};
        return random.nextInt(40) == 0 ? odd[random.nextInt(odd.length)] : otherwise;
    }

    private int first(int call) {
        int[] bounds = {largest + 1, 10, 10, 10, 24, 24, 1, 2, 94, 1, 1, 1, 2, 2, 1, 10, 10, 24, 12, 16, 10, 1, 2, 1, 1,
            1, 1};
        int plain = random.nextInt(bounds[call]) + (call == 8 ? 33 : 0);
        return odd(plain);
    }

    private int second(int call) {
        int cells = random.nextInt(3) == 0 ? 1 + random.nextInt(largest) : 1 + random.nextInt(8);
        int[] what = {7, largest + 1, 5};
        if (call == 15 || call == 16 || call == 17) {
            return odd(random.nextInt(what[call - 15]));
        }
        return odd(cells);
    }

    /** Mostly a character that keeps the text right, so that some texts are run. */
    private int likelyCode(int otherwise) {
        String signs = "+><-0123456789012345678901234567890:;;;";
        for (int tries = 0; tries < 20; tries++) {
            int code = signs.charAt(random.nextInt(signs.length()));
            if (model.wouldFit((char) code)) {
                return code;
            }
        }
        return otherwise;
    }

    private String answer(boolean ofModel, int call, int a, int b) {
        try {
            return ofModel ? ofModel(call, a, b) : ofProgram(call, a, b);
        } catch (RuntimeException e) {
            return "throws." + e.getClass().getSimpleName();
        }
    }

    private String ofProgram(int call, int a, int b) {
        switch (call) {
            case 0: return "" + program.create(a);
            case 1: return "" + program.grow(a, b);
            case 2: return "" + program.cut(a, b);
            case 3: return "" + program.delete(a);
            case 4: return "" + program.spoil(a);
            case 5: return "" + program.heal(a);
            case 6: return "" + program.pack();
            case 7: return "" + program.set(a);
            case 8: return "" + program.append(a);
            case 9: return "" + program.clearBuffer();
            case 10: return "" + program.firstError();
            case 11: return "" + program.run();
            case 12: return "" + program.keep(a);
            case 13: return "" + program.goBack(a);
            case 14: return "" + program.undo();
            case 15: return "" + program.fileOf(a, b);
            case 16: return "" + program.place(a, b);
            case 17: return "" + program.blockOf(a, b);
            case 18: return "" + program.count(a);
            case 19: return "" + program.ifPlaced(a);
            case 20: return "" + program.ifGrown(a, b);
            case 21: return "" + program.greatest();
            case 22: return "" + program.fewest(a);
            case 23: return "" + program.ifPacked();
            case 24: return "" + program.weakest();
            case 25: return "" + program.usedShare();
            default: return "" + program.digest();
        }
    }

    private String ofModel(int call, int a, int b) {
        switch (call) {
            case 0: return "" + model.create(a);
            case 1: return "" + model.grow(a, b);
            case 2: return "" + model.cut(a, b);
            case 3: return "" + model.delete(a);
            case 4: return "" + model.spoil(a);
            case 5: return "" + model.heal(a);
            case 6: return "" + model.pack();
            case 7: return "" + model.set(a);
            case 8: return "" + model.append(a);
            case 9: return "" + model.clearBuffer();
            case 10: return "" + model.firstError();
            case 11: return "" + model.run();
            case 12: return "" + model.keep(a);
            case 13: return "" + model.goBack(a);
            case 14: return "" + model.undo();
            case 15: return "" + model.fileOf(a, b);
            case 16: return "" + model.place(a, b);
            case 17: return "" + model.blockOf(a, b);
            case 18: return "" + model.count(a);
            case 19: return "" + model.ifPlaced(a);
            case 20: return "" + model.ifGrown(a, b);
            case 21: return "" + model.greatest();
            case 22: return "" + model.fewest(a);
            case 23: return "" + model.ifPacked();
            case 24: return "" + model.weakest();
            case 25: return "" + model.usedShare();
            default: return "" + model.digest();
        }
    }
}
