import java.util.Random;

/** Runs of calls from fixed seeds: the class answers each as the model of the document does. */
public final class ModelTest {
    private static final int RUNS = 400;
    private static final int CALLS = 512;
    private static final int[] ODD = {
        Integer.MIN_VALUE, -1000000001, -1001, -1, 0, 1, 3, 6, 1000, 1001, 100000, 100001, 1000000,
        1000001, 1000000000, 1000000001, Integer.MAX_VALUE};

    private final Random random;
    private final HeapSteps x;
    private final HeapModel model;
    private final int layers;
    private final int scale;
    private final int longest;
    private String call = "";

    private ModelTest(int seed) {
        random = new Random(seed);
        layers = seed % 9 - 1;
        x = new HeapSteps(layers);
        model = new HeapModel(layers);
        scale = new int[] {10, 1000, 30000, 1000000}[random.nextInt(4)];
        longest = new int[] {2, 30, 1000}[random.nextInt(3)];
    }

    /** A number that is mostly in 0 .. most, often small, and now and then odd. */
    private int pick(int most) {
        int how = random.nextInt(40);
        if (how == 0) {
            return ODD[random.nextInt(ODD.length)];
        }
        if (how < 4) {
            return random.nextBoolean() ? 0 : most;
        }
        return random.nextInt(Math.max(1, how < 25 ? Math.min(most, scale) : most)) + 1;
    }

    private int layer() {
        return random.nextInt(40) == 0
                ? ODD[random.nextInt(ODD.length)] : random.nextInt(Math.max(1, Math.min(6, layers)));
    }

    private int part() {
        return random.nextInt(40) == 0 ? ODD[random.nextInt(ODD.length)] : random.nextInt(3);
    }

    private int factor() {
        return random.nextInt(3) == 0 ? -pick(1000) : pick(1000);
    }

    private static long bit(boolean answer) {
        return answer ? 1 : 0;
    }

    private long[] put(int which) {
        int a = layer();
        int b = part();
        int c;
        switch (which) {
            case 0:
                c = pick(1000000);
                call = "part(" + a + ", " + b + ", " + c + ")";
                return new long[] {bit(x.part(a, b, c)), bit(model.part(a, b, c))};
            case 1:
                c = pick(1000000);
                call = "water(" + a + ", " + c + ")";
                return new long[] {bit(x.water(a, c)), bit(model.water(a, c))};
            default:
                c = pick(1000000000);
                call = "heat(" + a + ", " + c + ")";
                return new long[] {bit(x.heat(a, c)), bit(model.heat(a, c))};
        }
    }

    private long[] tell(int which) {
        int a = part();
        int b;
        int c;
        switch (which) {
            case 0:
                b = pick(random.nextBoolean() ? 100 : 1000000);
                c = pick(100000);
                call = "rate(" + a + ", " + b + ", " + c + ")";
                return new long[] {bit(x.rate(a, b, c)), bit(model.rate(a, b, c))};
            case 1:
                b = pick(100000);
                c = pick(1000);
                call = "yields(" + a + ", " + b + ", " + c + ")";
                return new long[] {bit(x.yields(a, b, c)), bit(model.yields(a, b, c))};
            case 2:
                a = layer();
                b = pick(1000000000);
                c = pick(1000000000);
                call = "bounds(" + a + ", " + b + ", " + c + ")";
                return new long[] {bit(x.bounds(a, b, c)), bit(model.bounds(a, b, c))};
            default:
                a = pick(random.nextBoolean() ? 1000 : 1000000);
                b = factor();
                c = factor();
                call = "fan(" + a + ", " + b + ", " + c + ")";
                return new long[] {bit(x.fan(a, b, c)), bit(model.fan(a, b, c))};
        }
    }

    private long[] tellOne(int which) {
        int a;
        switch (which) {
            case 0:
                a = pick(100000);
                call = "rain(" + a + ")";
                return new long[] {bit(x.rain(a)), bit(model.rain(a))};
            case 1:
                a = pick(1000000);
                call = "loss(" + a + ")";
                return new long[] {bit(x.loss(a)), bit(model.loss(a))};
            default:
                a = pick(1000000000);
                call = "limit(" + a + ")";
                return new long[] {bit(x.limit(a)), bit(model.limit(a))};
        }
    }

    private long[] change() {
        int which = random.nextInt(24);
        if (which < 14) {
            int minutes = random.nextInt(60) == 0
                    ? ODD[random.nextInt(ODD.length)] : 1 + random.nextInt(longest);
            call = "run(" + minutes + ")";
            return new long[] {x.run(minutes), model.run(minutes)};
        }
        if (which < 20) {
            call = "turn()";
            return new long[] {x.turn(), model.turn()};
        }
        if (which == 20) {
            call = "batch()";
            return new long[] {x.batch(), model.batch()};
        }
        return put(which - 21);
    }

    private long[] ask() {
        int a = layer();
        int b = part();
        switch (random.nextInt(6)) {
            case 0:
                call = "left(" + a + ", " + b + ")";
                return new long[] {x.left(a, b), model.left(a, b)};
            case 1:
                call = "wet(" + a + ")";
                return new long[] {x.wet(a), model.wet(a)};
            case 2:
                call = "warmth(" + a + ")";
                return new long[] {x.warmth(a), model.warmth(a)};
            case 3:
                call = "air()";
                return new long[] {x.air(), model.air()};
            case 4:
                a = random.nextInt(11) - 1;
                call = "gone(" + a + ")";
                return new long[] {x.gone(a), model.gone(a)};
            default:
                call = "balance(" + b + ")";
                return new long[] {x.balance(b), model.balance(b)};
        }
    }

    private long[] step() {
        switch (random.nextInt(8)) {
            case 0:
                return put(random.nextInt(3));
            case 1:
                return tell(random.nextInt(4));
            case 2:
                // A low limit stops all that follows, so little is told here.
                return random.nextInt(4) == 0 ? tellOne(random.nextInt(3)) : tellOne(random.nextInt(2));
            case 3:
                return change();
            default:
                return ask();
        }
    }

    public static void main(String[] args) {
        Due due = new Due();
        for (int seed = 0; seed < RUNS; seed++) {
            ModelTest run = new ModelTest(seed);
            for (int i = 0; i < CALLS; i++) {
                long[] answers = run.step();
                due.is("seed " + seed + ", call " + i + ": " + run.call, answers[0], answers[1]);
                if (answers[0] != answers[1]) {
                    break;
                }
            }
        }
        due.end();
    }
}
