/**
 * Promises 1 to 20: the least and the greatest number of each argument are taken, the numbers
 * next to them are not, and what the edges do when they are taken.
 */
public final class ArgumentEdgeTest {
    private static final Due DUE = new Due();
    private static final int MIN = Integer.MIN_VALUE;
    private static final int MAX = Integer.MAX_VALUE;
    private static final int BILLION = 1000000000;

    /** A call that tells something, with one number left open. */
    private interface Telling {
        boolean on(HeapSteps x, int number);
    }

    /** A call that asks something, with one number left open. */
    private interface Asking {
        long on(HeapSteps x, int number);
    }

    public static void main(String[] args) {
        numbersOfLayers();
        numbersOfThreeArguments();
        numbersOfOneArgument();
        numbersAsked();
        layersOfEveryHeap();
        promise1LayersOfAnotherNumber();
        promise2GramsAtTheEdges();
        promise2MostOfAPart();
        promise3MostWater();
        promise4HeatAtTheEdges();
        promise4MostHeat();
        promise5RowAboveTheRowBefore();
        promise5FourRows();
        promise5MillionthsAtTheEdges();
        promise5WarmthAtTheEdges();
        promise6YieldsAtTheEdges();
        promise7DryAtTheEdges();
        promise7HoldsAtTheEdges();
        promise8RainAtTheEdges();
        promise9LossAtTheEdges();
        promise10TargetAtTheEdges();
        promise10FactorsAtTheEdges();
        promise11LimitAtTheEdges();
        promise12MinutesAtTheEdges();
        promise12TwentyThousand();
        promise12MinutesThatDidNotRun();
        promise17TurnsOfAnEmptyHeap();
        promise20EmptyBatch();
        promise20GreatBatch();
        DUE.end();
    }

    /** True from least to most on a new heap of three layers, false next to them. */
    private static void takes(String name, int least, int most, Telling call) {
        for (int number : new int[] {least, least + 1, most - 1, most}) {
            DUE.yes(name.replace("?", "" + number), call.on(new HeapSteps(3), number));
        }
        for (int number : new int[] {MIN, least - 1, most + 1, MAX}) {
            DUE.no(name.replace("?", "" + number), call.on(new HeapSteps(3), number));
        }
    }

    /** 0 from least to most on a new heap of three layers, NONE next to them. */
    private static void answers(String name, int least, int most, Asking call) {
        for (int number = least; number <= most; number++) {
            DUE.is(name.replace("?", "" + number), call.on(new HeapSteps(3), number), 0);
        }
        for (int number : new int[] {MIN, least - 1, most + 1, MAX}) {
            DUE.is(name.replace("?", "" + number), call.on(new HeapSteps(3), number), -1);
        }
    }

    private static void numbersOfLayers() {
        takes("part(?, 0, 1)", 0, 2, (x, n) -> x.part(n, 0, 1));
        takes("water(?, 1)", 0, 2, (x, n) -> x.water(n, 1));
        takes("heat(?, 1)", 0, 2, (x, n) -> x.heat(n, 1));
        takes("bounds(?, 1, 1)", 0, 2, (x, n) -> x.bounds(n, 1, 1));
    }

    private static void numbersOfThreeArguments() {
        takes("part(0, ?, 1)", 0, 2, (x, n) -> x.part(0, n, 1));
        takes("part(2, 2, ?)", 0, 1000000, (x, n) -> x.part(2, 2, n));
        takes("rate(?, 1, 1)", 0, 2, (x, n) -> x.rate(n, 1, 1));
        takes("rate(0, ?, 1)", 0, 1000000, (x, n) -> x.rate(0, n, 1));
        takes("rate(2, 0, ?)", 0, 100000, (x, n) -> x.rate(2, 0, n));
        takes("yields(?, 1, 1)", 0, 2, (x, n) -> x.yields(n, 1, 1));
        takes("yields(0, ?, 0)", 0, 100000, (x, n) -> x.yields(0, n, 0));
        takes("yields(2, 0, ?)", 0, 1000, (x, n) -> x.yields(2, 0, n));
        takes("bounds(0, ?, 0)", 0, BILLION, (x, n) -> x.bounds(0, n, 0));
        takes("bounds(2, 0, ?)", 0, BILLION, (x, n) -> x.bounds(2, 0, n));
        takes("fan(?, 0, 0)", 0, 1000000, (x, n) -> x.fan(n, 0, 0));
        takes("fan(0, ?, 0)", -1000, 1000, (x, n) -> x.fan(0, n, 0));
        takes("fan(0, 0, ?)", -1000, 1000, (x, n) -> x.fan(0, 0, n));
    }

    private static void numbersOfOneArgument() {
        takes("water(2, ?)", 0, 1000000, (x, n) -> x.water(2, n));
        takes("heat(2, ?)", 0, BILLION, (x, n) -> x.heat(2, n));
        takes("rain(?)", 0, 100000, HeapSteps::rain);
        takes("loss(?)", 0, 1000000, HeapSteps::loss);
        takes("limit(?)", 0, BILLION, HeapSteps::limit);
        takes("run(?)", 1, 1000, (x, n) -> x.run(n) == n && x.gone(8) == n);
        for (int minutes : new int[] {MIN, -1, 0, 1001, MAX}) {
            DUE.is("run(" + minutes + ")", new HeapSteps(3).run(minutes), -1);
        }
    }

    private static void numbersAsked() {
        answers("left(?, 0)", 0, 2, (x, n) -> x.left(n, 0));
        answers("left(0, ?)", 0, 2, (x, n) -> x.left(0, n));
        answers("wet(?)", 0, 2, HeapSteps::wet);
        answers("warmth(?)", 0, 2, HeapSteps::warmth);
        answers("gone(?)", 0, 8, HeapSteps::gone);
        answers("balance(?)", 0, 2, HeapSteps::balance);
    }

    /** The last layer is L - 1 for every call and every L. */
    private static void layersOfEveryHeap() {
        for (int count = 1; count <= 6; count++) {
            HeapSteps x = new HeapSteps(count);
            String last = "of " + count + " layers the last: ";
            DUE.yes(last + "part", x.part(count - 1, 0, 5));
            DUE.no(last + "part", x.part(count, 0, 5));
            DUE.yes(last + "water", x.water(count - 1, 5));
            DUE.no(last + "water", x.water(count, 5));
            DUE.yes(last + "heat", x.heat(count - 1, 70));
            DUE.no(last + "heat", x.heat(count, 70));
            DUE.yes(last + "bounds", x.bounds(count - 1, 0, 5));
            DUE.no(last + "bounds", x.bounds(count, 0, 5));
            DUE.is(last + "left", x.left(count - 1, 0), 5);
            DUE.is(last + "left", x.left(count, 0), -1);
            DUE.is(last + "wet", x.wet(count - 1), 5);
            DUE.is(last + "wet", x.wet(count), -1);
            DUE.is(last + "warmth", x.warmth(count - 1), 7);
            DUE.is(last + "warmth", x.warmth(count), -1);
        }
    }

    /** "layers of 1 .. 6 (of another number 1)". */
    private static void promise1LayersOfAnotherNumber() {
        for (int told : new int[] {MIN, -1, 0, 1, 7, 8, MAX}) {
            HeapSteps x = new HeapSteps(told);
            DUE.is("HeapSteps(" + told + "): wet(0)", x.wet(0), 0);
            DUE.is("HeapSteps(" + told + "): wet(1)", x.wet(1), -1);
            x.water(0, 3);
            x.bounds(0, 0, 1);
            x.run(1);
            DUE.is("HeapSteps(" + told + "): layer 0 is the last", x.gone(2), 2);
        }
        for (int told = 2; told <= 6; told++) {
            DUE.is("HeapSteps(" + told + "): the last", new HeapSteps(told).wet(told - 1), 0);
            DUE.is("HeapSteps(" + told + "): behind it", new HeapSteps(told).wet(told), -1);
        }
    }

    private static void promise2GramsAtTheEdges() {
        HeapSteps x = new HeapSteps(1);
        x.part(0, 1, 0);
        DUE.is("no grams", x.left(0, 1), 0);
        x.part(0, 1, 1000000);
        DUE.is("most grams", x.left(0, 1), 1000000);
        x.part(0, 1, 1000001);
        DUE.is("too many grams", x.left(0, 1), 1000000);
        x.part(0, 1, -1);
        DUE.is("too few grams", x.left(0, 1), 1000000);
    }

    /** Only behind the 512th call can a part come to 1000000000 grams: kept there too. */
    private static void promise2MostOfAPart() {
        HeapSteps x = new HeapSteps(2);
        for (int i = 0; i < 500; i++) {
            DUE.yes("part, call " + i, x.part(1, 0, 1000000));
        }
        DUE.is("as much as 500 calls bring", x.left(1, 0), 500000000);
        for (int i = 0; i < 499; i++) {
            x.part(1, 0, 1000000);
        }
        x.part(1, 0, 999999);
        DUE.no("one gram more than it may have", x.part(1, 0, 2));
        DUE.is("left", x.left(1, 0), 999999999);
        DUE.yes("as much as it may have", x.part(1, 0, 1));
        DUE.yes("no grams more", x.part(1, 0, 0));
        DUE.no("one gram more", x.part(1, 0, 1));
        DUE.is("left", x.left(1, 0), 1000000000);
        DUE.yes("another part has its own", x.part(1, 1, 1));
        DUE.yes("water has its own", x.water(1, 1));
        DUE.yes("another layer has its own", x.part(0, 0, 1));
    }

    private static void promise3MostWater() {
        HeapSteps x = new HeapSteps(2);
        x.rain(100000);
        for (int i = 0; i < 9; i++) {
            x.run(1000);
        }
        x.run(990);
        DUE.is("wet", x.wet(0), 999000000);
        DUE.yes("almost as much as it may have", x.water(0, 999999));
        DUE.no("one gram more than it may have", x.water(0, 2));
        DUE.is("wet", x.wet(0), 999999999);
        DUE.yes("as much as it may have", x.water(0, 1));
        DUE.yes("no grams more", x.water(0, 0));
        DUE.no("one gram more", x.water(0, 1));
        DUE.no("many grams more", x.water(0, 1000000));
        DUE.is("wet", x.wet(0), 1000000000);
        DUE.yes("another layer has its own", x.water(1, 1000000));
        DUE.yes("a part has its own", x.part(0, 0, 1000000));
        DUE.is("balance(1)", x.balance(1), 0);
    }

    private static void promise4HeatAtTheEdges() {
        HeapSteps x = new HeapSteps(1);
        x.water(0, 1);
        x.heat(0, 0);
        DUE.is("no heat", x.warmth(0), 0);
        x.heat(0, 1000000000);
        DUE.is("most heat", x.warmth(0), 1000000000);
        x.heat(0, 1000000001);
        DUE.is("too much heat", x.warmth(0), 1000000000);
        x.heat(0, -1);
        DUE.is("too little heat", x.warmth(0), 1000000000);
        x.heat(0, 1000000000);
        x.heat(0, 1000000000);
        DUE.is("a warmth above an int's numbers", x.warmth(0), 3000000000L);
        DUE.is("balance(2)", x.balance(2), 0);
    }

    /** Only behind the 512th call can a layer come to 10^15 of heat: kept there too. */
    private static void promise4MostHeat() {
        HeapSteps x = new HeapSteps(2);
        x.water(1, 1);
        for (int i = 0; i < 999999; i++) {
            x.heat(1, 1000000000);
        }
        x.heat(1, 999999999);
        DUE.no("one unit more than it may have", x.heat(1, 2));
        DUE.is("warmth", x.warmth(1), 999999999999999L);
        DUE.yes("as much as it may have", x.heat(1, 1));
        DUE.yes("no unit more", x.heat(1, 0));
        DUE.no("one unit more", x.heat(1, 1));
        DUE.is("warmth", x.warmth(1), 1000000000000000L);
        DUE.yes("another layer has its own", x.heat(0, 1));
    }

    /** "a warmth (0 .. 1000000) above its row's before". */
    private static void promise5RowAboveTheRowBefore() {
        HeapSteps x = new HeapSteps(1);
        DUE.yes("a first row", x.rate(1, 500, 7));
        DUE.no("one below it", x.rate(1, 499, 7));
        DUE.no("the same", x.rate(1, 500, 7));
        DUE.no("the least", x.rate(1, 0, 7));
        DUE.yes("one above it", x.rate(1, 501, 7));
        DUE.no("between", x.rate(1, 500, 7));
        DUE.no("the same", x.rate(1, 501, 7));
        DUE.yes("just below the greatest", x.rate(1, 999999, 7));
        DUE.yes("the greatest", x.rate(1, 1000000, 7));
        DUE.yes("another part from the least on", x.rate(0, 0, 7));
        DUE.no("the same", x.rate(0, 0, 7));
        DUE.yes("one above it", x.rate(0, 1, 7));
        DUE.yes("a third part from the greatest on", x.rate(2, 1000000, 7));
        DUE.no("the same", x.rate(2, 1000000, 7));
        DUE.no("one above it", x.rate(2, 1000001, 7));
    }

    /** "false when .. it has 4": refused rows are no rows. */
    private static void promise5FourRows() {
        for (int part = 0; part < 3; part++) {
            HeapSteps x = new HeapSteps(1);
            for (int row = 0; row < 4; row++) {
                DUE.no("millionths above the greatest", x.rate(part, 10 + row, 100001));
                DUE.yes("row " + row, x.rate(part, 10 + row, 1000 * (row + 1)));
                DUE.no("not above the row before", x.rate(part, 10 + row, 5));
            }
            DUE.no("a fifth row", x.rate(part, 14, 100000));
            DUE.no("a fifth row far up", x.rate(part, 1000000, 100000));
            x.part(0, part, 1000);
            x.heat(0, 1000 * 14);
            x.run(1);
            DUE.is("the fourth row is the last", x.left(0, part), 996);
            DUE.yes("another part has its own", x.rate((part + 1) % 3, 0, 1));
        }
    }

    private static void promise5MillionthsAtTheEdges() {
        HeapSteps x = new HeapSteps(1);
        x.rate(0, 0, 0);
        x.rate(1, 0, 1);
        x.rate(2, 0, 100000);
        for (int part = 0; part < 3; part++) {
            x.part(0, part, 1000000);
        }
        x.run(1);
        DUE.is("0 millionths", x.left(0, 0), 1000000);
        DUE.is("1 millionth", x.left(0, 1), 999999);
        DUE.is("100000 millionths", x.left(0, 2), 900000);
        x.run(1);
        DUE.is("1 millionth of less than a million", x.left(0, 1), 999999);
    }

    private static void promise5WarmthAtTheEdges() {
        HeapSteps x = new HeapSteps(2);
        x.rate(0, 0, 100000);
        x.rate(1, 1000000, 100000);
        x.part(0, 0, 10);
        x.part(1, 1, 10);
        x.heat(1, 9999999);
        x.run(1);
        DUE.is("a row from 0 on, without heat", x.left(0, 0), 9);
        DUE.is("warmth", x.warmth(1), 999999);
        DUE.is("a row from 1000000 on, one below", x.left(1, 1), 10);
        x.heat(1, 1);
        x.run(1);
        DUE.is("a row from 1000000 on, at it", x.left(1, 1), 9);
    }

    private static void promise6YieldsAtTheEdges() {
        HeapSteps x = new HeapSteps(1);
        x.rate(0, 0, 100000);
        x.part(0, 0, 10000);
        x.yields(0, 100000, 1000);
        x.yields(0, 0, 0);
        x.run(1);
        DUE.is("no heat a gram", x.gone(4), 0);
        DUE.is("no water a gram", x.gone(7), 0);
        x.yields(0, 1, 1);
        x.run(1);
        DUE.is("1 heat a gram, of 900", x.gone(4), 900);
        DUE.is("1 thousandth a gram, of 900", x.gone(7), 0);
        x.yields(0, 100000, 1000);
        x.run(1);
        DUE.is("100000 heat a gram, of 810", x.gone(4), 900 + 81000000);
        DUE.is("1000 thousandths a gram, of 810", x.gone(7), 810);
        x.yields(0, 100001, 0);
        x.yields(0, 0, 1001);
        x.run(1);
        DUE.is("refused ones change nothing", x.gone(4), 900 + 81000000 + 72900000);
        DUE.is("refused ones change nothing", x.gone(7), 810 + 729);
    }

    private static void promise7DryAtTheEdges() {
        HeapSteps x = new HeapSteps(1);
        x.rate(0, 0, 1);
        x.part(0, 0, 1000000);
        x.part(0, 0, 1000000);
        x.bounds(0, 0, 1000000000);
        x.run(1);
        DUE.is("a dry bound of 0, no water", x.left(0, 0), 1999998);
        x.bounds(0, 1000000000, 1000000000);
        x.rain(100000);
        for (int i = 0; i < 9; i++) {
            x.run(1000);
        }
        x.run(999);
        x.rain(0);
        x.water(0, 99999);
        x.run(1);
        DUE.is("wet", x.wet(0), 999999999);
        DUE.is("a dry bound of 1000000000, one gram less", x.left(0, 0), 1999998);
        x.water(0, 1);
        x.run(1);
        DUE.is("a dry bound of 1000000000, wet enough", x.left(0, 0), 1999997);
    }

    private static void promise7HoldsAtTheEdges() {
        HeapSteps x = new HeapSteps(2);
        x.bounds(0, 0, 0);
        x.water(0, 1);
        x.run(1);
        DUE.is("holds nothing", x.wet(0), 0);
        DUE.is("all goes into the next", x.wet(1), 1);
        x.bounds(0, 0, 1000000000);
        x.rain(100000);
        for (int i = 0; i < 10; i++) {
            x.run(1000);
        }
        DUE.is("holds 1000000000", x.wet(0), 1000000000);
        DUE.is("nothing is above", x.wet(1), 1);
        x.rain(1);
        x.run(1);
        DUE.is("holds 1000000000 and no more", x.wet(0), 1000000000);
        DUE.is("one gram is above", x.wet(1), 2);
    }

    private static void promise8RainAtTheEdges() {
        HeapSteps x = new HeapSteps(1);
        for (int[] told : new int[][] {{1, 1}, {100000, 100001}, {100001, 200001}, {-1, 300001},
            {0, 300001}, {99999, 400000}}) {
            x.rain(told[0]);
            x.run(1);
            DUE.is("rain(" + told[0] + ")", x.gone(3), told[1]);
            DUE.is("rain(" + told[0] + ")", x.wet(0), told[1]);
        }
    }

    private static void promise9LossAtTheEdges() {
        HeapSteps x = new HeapSteps(1);
        x.water(0, 1);
        x.heat(0, 1000000);
        for (int[] told : new int[][] {{0, 1000000}, {1, 999999}, {1000001, 999999},
            {999999, 1}, {-1, 1}, {1000000, 0}}) {
            x.loss(told[0]);
            x.run(1);
            DUE.is("loss(" + told[0] + ")", x.warmth(0), told[1]);
        }
    }

    private static int airOf(int target, int p, int i, int warmth) {
        HeapSteps x = new HeapSteps(1);
        x.water(0, 1);
        x.heat(0, warmth);
        x.fan(target, p, i);
        x.run(1);
        return x.air();
    }

    private static void promise10TargetAtTheEdges() {
        DUE.is("target 0 at warmth 0", airOf(0, 1000, 0, 0), 0);
        DUE.is("target 0 at warmth 1", airOf(0, 1000, 0, 1), 1);
        DUE.is("target 1000000 one below", airOf(1000000, -1000, 0, 999999), 1);
        DUE.is("target 1000000 at it", airOf(1000000, 1000, 0, 1000000), 0);
        DUE.is("target 1000000 one above", airOf(1000000, 1000, 0, 1000001), 1);
        HeapSteps x = new HeapSteps(1);
        x.water(0, 1);
        x.heat(0, 7);
        DUE.yes("fan(0, 1000, 0)", x.fan(0, 1000, 0));
        DUE.no("fan(1000001, 0, 0)", x.fan(1000001, 0, 0));
        DUE.no("fan(-1, 0, 0)", x.fan(-1, 0, 0));
        x.run(1);
        DUE.is("refused targets change nothing", x.air(), 7);
    }

    private static void promise10FactorsAtTheEdges() {
        DUE.is("P of 1000", airOf(10, 1000, 0, 17), 7);
        DUE.is("P of -1000", airOf(10, -1000, 0, 3), 7);
        DUE.is("I of 1000", airOf(10, 0, 1000, 17), 7);
        DUE.is("I of -1000", airOf(10, 0, -1000, 3), 7);
        DUE.is("P and I of 1000", airOf(10, 1000, 1000, 17), 14);
        DUE.is("P and I of -1000", airOf(10, -1000, -1000, 3), 14);
        DUE.is("P of 1000 and I of -1000", airOf(10, 1000, -1000, 17), 0);
        DUE.is("P and I of 0", airOf(10, 0, 0, 1000000000), 0);
        HeapSteps x = new HeapSteps(1);
        x.water(0, 1);
        x.heat(0, 7);
        x.fan(0, 1000, 1000);
        for (int wrong : new int[] {-1001, 1001}) {
            DUE.no("P of " + wrong, x.fan(0, wrong, 0));
            DUE.no("I of " + wrong, x.fan(0, 0, wrong));
        }
        x.run(1);
        DUE.is("refused factors change nothing", x.air(), 14);
    }

    private static void promise11LimitAtTheEdges() {
        HeapSteps x = new HeapSteps(1);
        x.limit(0);
        x.water(0, 2);
        x.heat(0, 1);
        DUE.is("limit 0 at warmth 0", x.run(1), 1);
        x.heat(0, 1);
        DUE.is("limit 0 at warmth 1", x.run(1), 0);
        x.batch();
        x.limit(1000000000);
        x.water(0, 1);
        x.heat(0, 1000000000);
        DUE.is("limit 1000000000 at it", x.run(1), 1);
        x.limit(999999999);
        DUE.is("limit 999999999 one above", x.run(1), 0);
        x.limit(1000000000);
        x.heat(0, 1);
        DUE.is("limit 1000000000 one above", x.run(1), 0);
        DUE.no("limit(1000000001)", x.limit(1000000001));
        DUE.is("a refused limit changes nothing", x.run(1), 0);
    }

    private static void promise12MinutesAtTheEdges() {
        HeapSteps x = new HeapSteps(1);
        x.rain(1);
        DUE.is("run(1)", x.run(1), 1);
        DUE.is("one minute of rain", x.wet(0), 1);
        DUE.is("run(1000)", x.run(1000), 1000);
        DUE.is("a thousand minutes of rain", x.wet(0), 1001);
        DUE.is("run(0)", x.run(0), -1);
        DUE.is("run(1001)", x.run(1001), -1);
        DUE.is("no minute of rain", x.wet(0), 1001);
        DUE.is("minutes", x.gone(8), 1001);
    }

    /** "NONE when .. there were more than 20000 in all". */
    private static void promise12TwentyThousand() {
        HeapSteps x = new HeapSteps(1);
        x.rain(1);
        for (int i = 0; i < 19; i++) {
            DUE.is("run(1000), " + i, x.run(1000), 1000);
        }
        DUE.is("run(1) to 19001", x.run(1), 1);
        DUE.is("run(1000) to 20001", x.run(1000), -1);
        DUE.is("run(998) to 19999", x.run(998), 998);
        DUE.is("run(2) to 20001", x.run(2), -1);
        DUE.is("run(1) to 20000", x.run(1), 1);
        DUE.is("run(1) to 20001", x.run(1), -1);
        DUE.is("run(1000) to 21000", x.run(1000), -1);
        DUE.is("minutes", x.gone(8), 20000);
        DUE.is("rain", x.gone(3), 20000);
        x.batch();
        DUE.is("run(1) to 20001 behind a batch", x.run(1), -1);
        HeapSteps other = new HeapSteps(1);
        for (int i = 0; i < 20; i++) {
            DUE.is("run(1000), " + i, other.run(1000), 1000);
        }
        DUE.is("another heap has its own minutes", other.gone(8), 20000);
        DUE.is("run(1) to 20001", other.run(1), -1);
    }

    /** What the limit kept from running is no minute. */
    private static void promise12MinutesThatDidNotRun() {
        HeapSteps x = new HeapSteps(1);
        x.limit(0);
        x.water(0, 1);
        x.heat(0, 1);
        for (int i = 0; i < 30; i++) {
            DUE.is("too warm", x.run(1000), 0);
        }
        DUE.is("no minutes", x.gone(8), 0);
        x.limit(1);
        for (int i = 0; i < 20; i++) {
            DUE.is("run(1000), " + i, x.run(1000), 1000);
        }
        x.limit(0);
        DUE.is("NONE, not 0: the minutes are refused first", x.run(1), -1);
    }

    private static void promise17TurnsOfAnEmptyHeap() {
        for (int count = 1; count <= 6; count++) {
            HeapSteps x = new HeapSteps(count);
            DUE.is("a first turn", x.turn(), 1);
            for (int layer = 0; layer < count; layer++) {
                DUE.is("empty: wet", x.wet(layer), 0);
                DUE.is("empty: left", x.left(layer, 2), 0);
                DUE.is("empty: warmth", x.warmth(layer), 0);
            }
            DUE.is("a refused call is no turn", x.run(0), -1);
            x.batch();
            DUE.is("a second turn", x.turn(), 2);
        }
    }

    private static void promise20EmptyBatch() {
        HeapSteps x = new HeapSteps(2);
        DUE.is("a batch of nothing", x.batch(), 0);
        x.heat(1, 1000);
        DUE.is("a batch of heat alone", x.batch(), 0);
        x.water(1, 1);
        DUE.is("the heat went with it", x.warmth(1), 0);
        DUE.is("a batch of one gram", x.batch(), 1);
        DUE.is("a batch behind a batch", x.batch(), 0);
        for (int what = 0; what < 3; what++) {
            DUE.is("balance(" + what + ")", x.balance(what), 0);
        }
    }

    /** More grams than an int holds. */
    private static void promise20GreatBatch() {
        HeapSteps x = new HeapSteps(2);
        x.rain(100000);
        for (int i = 0; i < 20; i++) {
            x.run(1000);
        }
        DUE.is("rain", x.gone(3), 2000000000);
        DUE.is("wet(0)", x.wet(0), 1000000000);
        DUE.is("wet(1)", x.wet(1), 1000000000);
        for (int i = 0; i < 200; i++) {
            x.part(0, 1, 1000000);
            x.part(1, 2, 1000000);
        }
        DUE.is("batch", x.batch(), 2400000000L);
        DUE.is("balance(0)", x.balance(0), 0);
        DUE.is("balance(1)", x.balance(1), 0);
    }
}
