import java.util.function.ToLongFunction;

/**
 * "A call that is refused changes nothing": each call, with each argument below its least and
 * above its greatest number, on a heap in which everything is told and shows.
 */
public final class RefusedTest {
    private static final Due DUE = new Due();
    private static final int MIN = Integer.MIN_VALUE;
    private static final int MAX = Integer.MAX_VALUE;
    private static final int[] NO_LAYER = {MIN, -1, 3, 6, MAX};
    private static final int[] NO_PART = {MIN, -1, 3, 4, MAX};

    /** A call with one number that is left open. */
    private interface Open {
        boolean on(HeapSteps x, int number);
    }

    /** A question with one number that is left open. */
    private interface Question {
        long on(HeapSteps x, int number);
    }

    public static void main(String[] args) {
        richHeapShowsAll();
        acceptedCallsAreSeen();
        putIn();
        rates();
        yieldsAndBounds();
        rainLossLimit();
        fans();
        runs();
        tooWarmToRun();
        questions();
        severalWrong();
        manyOneAfterTheOther();
        fullOfWater();
        fullOfPart();
        fullOfHeat();
        noMinuteLeft();
        tooManyMinutes();
        DUE.end();
    }

    private static void refuse(String name, ToLongFunction<HeapSteps> call) {
        Twin.refused(DUE, name, Twin::rich, call, 0);
    }

    private static void refuseEach(String name, Open call, int... numbers) {
        for (int number : numbers) {
            refuse(name.replace("?", "" + number), x -> call.on(x, number) ? 1 : 0);
        }
    }

    private static void noneForEach(String name, Question question, int... numbers) {
        for (int number : numbers) {
            Twin.refused(DUE, name.replace("?", "" + number), Twin::rich,
                    x -> question.on(x, number), HeapSteps.NONE);
        }
    }

    /** Else the comparison with the twin would prove little. */
    private static void richHeapShowsAll() {
        HeapSteps x = Twin.rich();
        HeapSteps later = Twin.rich();
        DUE.is("a rich heap runs on", later.run(1), 1);
        for (int layer = 0; layer < 3; layer++) {
            for (int part = 0; part < 3; part++) {
                DUE.yes("part " + part + " breaks in layer " + layer,
                        later.left(layer, part) < x.left(layer, part));
            }
        }
        DUE.yes("the fan blows", x.air() > 0 && x.air() < 1000);
        for (int what = 0; what < 3; what++) {
            DUE.is("balance(" + what + ")", later.balance(what), 0);
        }
        for (int what = 0; what < 9; what++) {
            DUE.yes("sum " + what + " goes on", later.gone(what) > x.gone(what));
        }
    }

    private static void acceptedCallsAreSeen() {
        Twin.seen(DUE, "part", x -> x.part(1, 1, 1));
        Twin.seen(DUE, "water", x -> x.water(1, 1));
        Twin.seen(DUE, "heat", x -> x.heat(2, 1000));
        Twin.seen(DUE, "rate", x -> x.rate(0, 9, 100000));
        Twin.seen(DUE, "a row far up", x -> x.rate(2, 1000000, 5));
        for (int part = 0; part < 3; part++) {
            int of = part;
            Twin.seen(DUE, "yields " + part, x -> x.yields(of, 100000, 1000));
        }
        for (int layer = 0; layer < 3; layer++) {
            int of = layer;
            Twin.seen(DUE, "dry bound " + layer, x -> x.bounds(of, 1000000000, 50300 + of));
            Twin.seen(DUE, "holds " + layer, x -> x.bounds(of, 40000 + of, 50299 + of));
        }
        Twin.seen(DUE, "rain", x -> x.rain(701));
        Twin.seen(DUE, "loss", x -> x.loss(1000));
        Twin.seen(DUE, "target", x -> x.fan(13, 1000, 700));
        Twin.seen(DUE, "the same fan with a new sum", x -> x.fan(12, 1000, 700));
        Twin.seen(DUE, "a higher limit", x -> x.limit(400001));
        Twin.seen(DUE, "a lower limit", x -> x.limit(399999));
        Twin.seen(DUE, "run", x -> x.run(1));
        Twin.seen(DUE, "turn", HeapSteps::turn);
        Twin.seen(DUE, "batch", HeapSteps::batch);
    }

    private static void putIn() {
        refuseEach("part(?, 0, 777)", (x, n) -> x.part(n, 0, 777), NO_LAYER);
        refuseEach("part(0, ?, 777)", (x, n) -> x.part(0, n, 777), NO_PART);
        refuseEach("part(1, 2, ?)", (x, n) -> x.part(1, 2, n), MIN, -1, 1000001, MAX);
        refuseEach("water(?, 777)", (x, n) -> x.water(n, 777), NO_LAYER);
        refuseEach("water(2, ?)", (x, n) -> x.water(2, n), MIN, -1, 1000001, MAX);
        refuseEach("heat(?, 777777)", (x, n) -> x.heat(n, 777777), NO_LAYER);
        refuseEach("heat(0, ?)", (x, n) -> x.heat(0, n), MIN, -1, 1000000001, MAX);
    }

    private static void rates() {
        refuseEach("rate(?, 10, 100000)", (x, n) -> x.rate(n, 10, 100000), NO_PART);
        refuseEach("rate(0, ?, 100000)", (x, n) -> x.rate(0, n, 100000), MIN, -1, 1000001, MAX);
        refuseEach("rate(2, 6, ?)", (x, n) -> x.rate(2, 6, n), MIN, -1, 100001, MAX);
        refuseEach("rate(0, ?, 100000): not above the row before",
                (x, n) -> x.rate(0, n, 100000), 0, 2, 3, 4, 7, 8);
        refuseEach("rate(1, ?, 100000): it has 4",
                (x, n) -> x.rate(1, n, 100000), 0, 8, 9, 10, 1000000);
    }

    private static void yieldsAndBounds() {
        refuseEach("yields(?, 100000, 1000)", (x, n) -> x.yields(n, 100000, 1000), NO_PART);
        for (int part = 0; part < 3; part++) {
            int of = part;
            refuseEach("yields(" + of + ", ?, 1000)", (x, n) -> x.yields(of, n, 1000),
                    MIN, -1, 100001, MAX);
            refuseEach("yields(" + of + ", 100000, ?)", (x, n) -> x.yields(of, 100000, n),
                    MIN, -1, 1001, MAX);
        }
        refuseEach("bounds(?, 1000000000, 0)", (x, n) -> x.bounds(n, 1000000000, 0), NO_LAYER);
        for (int layer = 0; layer < 3; layer++) {
            int of = layer;
            refuseEach("bounds(" + of + ", ?, 0)", (x, n) -> x.bounds(of, n, 0),
                    MIN, -1, 1000000001, MAX);
            refuseEach("bounds(" + of + ", 1000000000, ?)", (x, n) -> x.bounds(of, 1000000000, n),
                    MIN, -1, 1000000001, MAX);
        }
    }

    private static void rainLossLimit() {
        refuseEach("rain(?)", HeapSteps::rain, MIN, -1, 100001, MAX);
        refuseEach("loss(?)", HeapSteps::loss, MIN, -1, 1000001, MAX);
        refuseEach("limit(?)", HeapSteps::limit, MIN, -1, 1000000001, MAX);
    }

    private static void fans() {
        refuseEach("fan(?, -1000, -1000)", (x, n) -> x.fan(n, -1000, -1000),
                MIN, -1, 1000001, MAX);
        refuseEach("fan(12, ?, 700): the sum stays too", (x, n) -> x.fan(12, n, 700),
                MIN, -1001, 1001, MAX);
        refuseEach("fan(12, 1000, ?): the sum stays too", (x, n) -> x.fan(12, 1000, n),
                MIN, -1001, 1001, MAX);
        refuseEach("fan(0, 0, ?)", (x, n) -> x.fan(0, 0, n), MIN, -1001, 1001, MAX);
        refuseEach("fan(0, ?, 0)", (x, n) -> x.fan(0, n, 0), MIN, -1001, 1001, MAX);
    }

    private static void runs() {
        noneForEach("run(?)", HeapSteps::run, MIN, -1, 0, 1001, 20001, MAX);
    }

    /** It is not refused, but no minute runs: rain, fan and sums stay as they are. */
    private static void tooWarmToRun() {
        for (int minutes : new int[] {1, 1000}) {
            Twin.refused(DUE, "run(" + minutes + ") above the limit", Twin::rich, x -> {
                x.limit(0);
                long ran = x.run(minutes);
                x.limit(400000);
                return ran;
            }, 0);
        }
    }

    private static void questions() {
        noneForEach("left(?, 0)", (x, n) -> x.left(n, 0), NO_LAYER);
        noneForEach("left(0, ?)", (x, n) -> x.left(0, n), NO_PART);
        noneForEach("wet(?)", HeapSteps::wet, NO_LAYER);
        noneForEach("warmth(?)", HeapSteps::warmth, NO_LAYER);
        noneForEach("gone(?)", HeapSteps::gone, MIN, -1, 9, MAX);
        noneForEach("balance(?)", HeapSteps::balance, MIN, -1, 3, MAX);
    }

    private static void severalWrong() {
        refuse("part(3, 3, -1)", x -> x.part(3, 3, -1) ? 1 : 0);
        refuse("water(-1, 1000001)", x -> x.water(-1, 1000001) ? 1 : 0);
        refuse("heat(3, -1)", x -> x.heat(3, -1) ? 1 : 0);
        refuse("rate(3, -1, 100001)", x -> x.rate(3, -1, 100001) ? 1 : 0);
        refuse("yields(-1, -1, -1)", x -> x.yields(-1, -1, -1) ? 1 : 0);
        refuse("bounds(3, -1, -1)", x -> x.bounds(3, -1, -1) ? 1 : 0);
        refuse("fan(-1, 1001, -1001)", x -> x.fan(-1, 1001, -1001) ? 1 : 0);
        Twin.refused(DUE, "left(3, 3)", Twin::rich, x -> x.left(3, 3), HeapSteps.NONE);
    }

    /** Each kind of call once, all on one heap. */
    private static void manyOneAfterTheOther() {
        Twin.refused(DUE, "many refused calls", Twin::rich, x -> {
            long taken = 0;
            boolean[] answers = {
                x.part(0, 0, -1), x.water(0, -1), x.heat(0, -1), x.rate(0, 8, 100000),
                x.yields(0, 100001, 0), x.bounds(0, 1000000001, 0), x.rain(-1), x.loss(-1),
                x.fan(0, 0, 1001), x.limit(-1)};
            for (boolean answer : answers) {
                taken += answer ? 1 : 0;
            }
            return taken + (x.run(0) == -1 ? 0 : 1) + (x.gone(9) == -1 ? 0 : 1);
        }, 0);
    }

    private static HeapSteps wetAsCanBe() {
        HeapSteps x = new HeapSteps(2);
        x.rain(100000);
        for (int i = 0; i < 10; i++) {
            x.run(1000);
        }
        x.rain(0);
        return x;
    }

    private static void fullOfWater() {
        Twin.refused(DUE, "water at 1000000000 grams", RefusedTest::wetAsCanBe,
                x -> x.water(0, 1) ? 1 : 0, 0);
        Twin.refused(DUE, "much water at 1000000000 grams", RefusedTest::wetAsCanBe,
                x -> x.water(0, 1000000) ? 1 : 0, 0);
    }

    // The document promises nothing behind 512 calls, but a part's and the heat's greatest
    // number are reached only there: what these sentences ask is kept there too.

    private static HeapSteps fullPart() {
        HeapSteps x = new HeapSteps(2);
        for (int i = 0; i < 1000; i++) {
            x.part(1, 2, 1000000);
        }
        return x;
    }

    private static void fullOfPart() {
        Twin.refused(DUE, "a part at 1000000000 grams", RefusedTest::fullPart,
                x -> x.part(1, 2, 1) ? 1 : 0, 0);
        Twin.refused(DUE, "much of a part at 1000000000 grams", RefusedTest::fullPart,
                x -> x.part(1, 2, 1000000) ? 1 : 0, 0);
    }

    private static HeapSteps fullHeat() {
        HeapSteps x = new HeapSteps(2);
        x.part(1, 0, 1000000);
        x.part(1, 0, 1000000);
        for (int i = 0; i < 1000000; i++) {
            x.heat(1, 1000000000);
        }
        return x;
    }

    private static void fullOfHeat() {
        Twin.refused(DUE, "heat at 1000000000000000", RefusedTest::fullHeat,
                x -> x.heat(1, 1) ? 1 : 0, 0);
        Twin.refused(DUE, "much heat at 1000000000000000", RefusedTest::fullHeat,
                x -> x.heat(1, 1000000000) ? 1 : 0, 0);
    }

    private static HeapSteps afterMinutes(int minutes) {
        HeapSteps x = Twin.rich();
        x.limit(1000000000);
        int open = minutes - 5;
        while (open > 0) {
            open -= x.run(Math.min(open, 1000));
        }
        return x;
    }

    private static void noMinuteLeft() {
        for (int minutes : new int[] {1, 2, 1000}) {
            Twin.refused(DUE, "run(" + minutes + ") after 20000", () -> afterMinutes(20000),
                    x -> x.run(minutes), HeapSteps.NONE);
        }
    }

    private static void tooManyMinutes() {
        Twin.refused(DUE, "run(2) after 19999", () -> afterMinutes(19999), x -> x.run(2), -1);
        Twin.refused(DUE, "run(1000) after 19999", () -> afterMinutes(19999),
                x -> x.run(1000), -1);
        Twin.refused(DUE, "run(1000) after 19001", () -> afterMinutes(19001),
                x -> x.run(1000), -1);
        HeapSteps x = afterMinutes(19000);
        DUE.is("run(1000) after 19000", x.run(1000), 1000);
        DUE.is("minutes", x.gone(8), 20000);
    }
}
