/** Promises 1 to 11: a new object, and what is put in or told. */
public final class TellingTest {
    private static final Due DUE = new Due();
    private static final int MIN = Integer.MIN_VALUE;
    private static final int MAX = Integer.MAX_VALUE;

    public static void main(String[] args) {
        promise1NewObject();
        promise1Defaults();
        promise2Part();
        promise3Water();
        promise3WaterLimit();
        promise4Heat();
        promise5Rate();
        promise5RowsOfWarmth();
        promise6Yields();
        promise7Bounds();
        promise8Rain();
        promise9Loss();
        promise10Fan();
        promise11Limit();
        DUE.end();
    }

    private static void layersOf(int told, int due) {
        HeapSteps x = new HeapSteps(told);
        for (int layer = -1; layer <= 7; layer++) {
            long want = layer >= 0 && layer < due ? 0 : -1;
            String of = "HeapSteps(" + told + "): layer " + layer;
            DUE.is(of + " wet", x.wet(layer), want);
            DUE.is(of + " warmth", x.warmth(layer), want);
            for (int part = 0; part < 3; part++) {
                DUE.is(of + " left " + part, x.left(layer, part), want);
            }
        }
    }

    private static void promise1NewObject() {
        for (int layers = 1; layers <= 6; layers++) {
            layersOf(layers, layers);
        }
        for (int layers : new int[] {MIN, -6, -1, 0, 7, 8, 1000, MAX}) {
            layersOf(layers, 1);
        }
        HeapSteps x = new HeapSteps(6);
        for (int what = 0; what <= 8; what++) {
            DUE.is("new: gone(" + what + ")", x.gone(what), 0);
        }
        for (int what = 0; what <= 2; what++) {
            DUE.is("new: balance(" + what + ")", x.balance(what), 0);
        }
        DUE.is("new: air", x.air(), 0);
        DUE.is("new: batch", x.batch(), 0);
        DUE.is("new: turn", x.turn(), 1);
    }

    /** Untold: no rows, no yields, dry 0, holds and limit 1000000000, no rain, no loss, no fan. */
    private static void promise1Defaults() {
        HeapSteps x = new HeapSteps(2);
        x.part(0, 0, 1000);
        x.part(0, 1, 1000);
        x.part(0, 2, 1000);
        x.heat(0, 300000);
        DUE.is("untold: run", x.run(1000), 1000);
        for (int part = 0; part < 3; part++) {
            DUE.is("untold: left", x.left(0, part), 1000);
        }
        DUE.is("untold: wet", x.wet(0), 0);
        DUE.is("untold: warmth", x.warmth(0), 100);
        DUE.is("untold: air", x.air(), 0);
        DUE.is("untold: rain", x.gone(3), 0);
        DUE.is("untold: loss", x.gone(5), 0);
        x.rate(1, 0, 100000);
        x.run(1);
        DUE.is("untold dry bound: it breaks without water", x.left(0, 1), 900);
        DUE.is("untold yield of heat", x.gone(4), 0);
        DUE.is("untold yield of water", x.gone(7), 0);
    }

    private static void promise2Part() {
        HeapSteps x = new HeapSteps(3);
        DUE.yes("part(0, 0, 0)", x.part(0, 0, 0));
        DUE.yes("part(2, 2, 1000000)", x.part(2, 2, 1000000));
        DUE.yes("part(2, 2, 1000000)", x.part(2, 2, 1000000));
        DUE.yes("part(2, 1, 7)", x.part(2, 1, 7));
        for (int layer : new int[] {MIN, -1, 3, 6, MAX}) {
            DUE.no("part in layer " + layer, x.part(layer, 0, 5));
        }
        for (int part : new int[] {MIN, -1, 3, 4, MAX}) {
            DUE.no("part " + part, x.part(0, part, 5));
        }
        for (int grams : new int[] {MIN, -1, 1000001, MAX}) {
            DUE.no("part of grams " + grams, x.part(0, 0, grams));
        }
        DUE.is("left(0, 0)", x.left(0, 0), 0);
        DUE.is("left(2, 2)", x.left(2, 2), 2000000);
        DUE.is("left(2, 1)", x.left(2, 1), 7);
        DUE.is("left(2, 0)", x.left(2, 0), 0);
        DUE.is("wet(0)", x.wet(0), 0);
        DUE.is("wet(2)", x.wet(2), 0);
        DUE.is("balance(0)", x.balance(0), 0);
    }

    private static void promise3Water() {
        HeapSteps x = new HeapSteps(2);
        DUE.yes("water(0, 0)", x.water(0, 0));
        DUE.yes("water(1, 1000000)", x.water(1, 1000000));
        DUE.yes("water(1, 3)", x.water(1, 3));
        for (int layer : new int[] {MIN, -1, 2, MAX}) {
            DUE.no("water in layer " + layer, x.water(layer, 5));
        }
        for (int grams : new int[] {MIN, -1, 1000001, MAX}) {
            DUE.no("water of grams " + grams, x.water(0, grams));
        }
        DUE.is("wet(0)", x.wet(0), 0);
        DUE.is("wet(1)", x.wet(1), 1000003);
        DUE.is("left(1, 0)", x.left(1, 0), 0);
        DUE.is("balance(1)", x.balance(1), 0);
    }

    /** Rain alone can bring a layer to 1000000000 grams in 512 calls. */
    private static void promise3WaterLimit() {
        HeapSteps x = new HeapSteps(1);
        x.rain(100000);
        for (int i = 0; i < 9; i++) {
            x.run(1000);
        }
        x.run(999);
        DUE.is("wet before the limit", x.wet(0), 999900000);
        DUE.no("water to one gram above the limit", x.water(0, 100001));
        DUE.is("wet behind a refused one", x.wet(0), 999900000);
        DUE.yes("water to the limit", x.water(0, 100000));
        DUE.is("wet at the limit", x.wet(0), 1000000000);
        DUE.yes("water(0, 0) at the limit", x.water(0, 0));
        DUE.no("water(0, 1) at the limit", x.water(0, 1));
        DUE.is("wet at the limit", x.wet(0), 1000000000);
        DUE.is("untold holds: nothing seeps at 1000000000", x.gone(2), 0);
        x.run(1);
        DUE.is("untold holds: what is above seeps", x.gone(2), 100000);
        DUE.is("untold holds", x.wet(0), 1000000000);
        DUE.is("balance(1)", x.balance(1), 0);
    }

    private static void promise4Heat() {
        HeapSteps x = new HeapSteps(2);
        x.water(0, 10);
        x.water(1, 10);
        DUE.yes("heat(0, 0)", x.heat(0, 0));
        DUE.is("warmth(0)", x.warmth(0), 0);
        DUE.yes("heat(0, 1000000000)", x.heat(0, 1000000000));
        DUE.yes("heat(0, 1000000000)", x.heat(0, 1000000000));
        DUE.yes("heat(0, 1000000000)", x.heat(0, 1000000000));
        for (int layer : new int[] {MIN, -1, 2, MAX}) {
            DUE.no("heat in layer " + layer, x.heat(layer, 1000));
        }
        for (int units : new int[] {MIN, -1, 1000000001, MAX}) {
            DUE.no("heat of units " + units, x.heat(1, units));
        }
        DUE.is("warmth(0)", x.warmth(0), 300000000);
        DUE.is("warmth(1)", x.warmth(1), 0);
        DUE.is("balance(2)", x.balance(2), 0);
    }

    private static void promise5Rate() {
        HeapSteps x = new HeapSteps(1);
        for (int part : new int[] {MIN, -1, 3, MAX}) {
            DUE.no("rate of part " + part, x.rate(part, 0, 1));
        }
        for (int warmth : new int[] {MIN, -1, 1000001, MAX}) {
            DUE.no("rate from warmth " + warmth, x.rate(0, warmth, 1));
        }
        for (int millionths : new int[] {MIN, -1, 100001, MAX}) {
            DUE.no("rate of millionths " + millionths, x.rate(0, 5, millionths));
        }
        DUE.yes("rate(0, 0, 0)", x.rate(0, 0, 0));
        DUE.no("rate from the same warmth", x.rate(0, 0, 5));
        DUE.yes("rate(0, 1, 100000)", x.rate(0, 1, 100000));
        DUE.yes("rate(0, 7, 3)", x.rate(0, 7, 3));
        DUE.no("rate from a lower warmth", x.rate(0, 6, 3));
        DUE.no("rate from the same warmth", x.rate(0, 7, 3));
        DUE.yes("rate(0, 1000000, 3)", x.rate(0, 1000000, 3));
        DUE.yes("rate(1, 0, 5): rows are each part's own", x.rate(1, 0, 5));
        DUE.yes("rate(1, 1, 5)", x.rate(1, 1, 5));
        DUE.yes("rate(1, 2, 5)", x.rate(1, 2, 5));
        DUE.yes("rate(1, 3, 5)", x.rate(1, 3, 5));
        DUE.no("a fifth row", x.rate(1, 4, 5));
        DUE.yes("rate(2, 1000000, 0)", x.rate(2, 1000000, 0));
        DUE.no("nothing is above 1000000", x.rate(2, 1000000, 0));
    }

    private static long leftAfterMinuteAt(int warmth) {
        HeapSteps x = new HeapSteps(1);
        x.rate(1, 10, 1000);
        x.rate(1, 20, 100000);
        x.rate(1, 30, 0);
        x.rate(1, 1000000, 20);
        x.part(0, 1, 1000);
        x.heat(0, warmth * 1000);
        x.run(1);
        return x.left(0, 1);
    }

    private static void promise5RowsOfWarmth() {
        DUE.is("below the first row", leftAfterMinuteAt(9), 1000);
        DUE.is("at the first row", leftAfterMinuteAt(10), 999);
        DUE.is("above the first row", leftAfterMinuteAt(19), 999);
        DUE.is("at the second row", leftAfterMinuteAt(20), 900);
        DUE.is("above the second row", leftAfterMinuteAt(29), 900);
        DUE.is("at the third row", leftAfterMinuteAt(30), 1000);
        HeapSteps x = new HeapSteps(1);
        x.rate(2, 999999, 10);
        x.rate(2, 1000000, 20);
        x.part(0, 2, 100000);
        HeapSteps y = new HeapSteps(1);
        y.rate(2, 999999, 10);
        y.rate(2, 1000000, 20);
        y.part(0, 2, 100000);
        for (int i = 0; i < 100; i++) {
            x.heat(0, 1000000000);
            y.heat(0, i == 0 ? 999999999 : 1000000000);
        }
        x.run(1);
        y.run(1);
        DUE.is("at warmth 1000000", x.left(0, 2), 99998);
        DUE.is("just below warmth 1000000", y.left(0, 2), 99999);
    }

    private static void promise6Yields() {
        HeapSteps x = new HeapSteps(1);
        for (int part = 0; part < 3; part++) {
            x.rate(part, 0, 100000);
        }
        DUE.yes("yields(0, 100000, 1000)", x.yields(0, 100000, 1000));
        DUE.yes("yields(1, 7, 1)", x.yields(1, 7, 1));
        DUE.yes("yields(1, 3, 333)", x.yields(1, 3, 333));
        DUE.yes("yields(2, 0, 0)", x.yields(2, 0, 0));
        for (int wrong : new int[] {MIN, -1, MAX}) {
            DUE.no("yields of part " + wrong, x.yields(wrong, 1, 1));
            DUE.no("yields of heat " + wrong, x.yields(1, wrong, 1));
            DUE.no("yields of water " + wrong, x.yields(1, 1, wrong));
        }
        DUE.no("yields(3, 1, 1)", x.yields(3, 1, 1));
        DUE.no("yields(1, 100001, 1)", x.yields(1, 100001, 1));
        DUE.no("yields(1, 1, 1001)", x.yields(1, 1, 1001));
        x.part(0, 1, 80);
        x.run(1);
        DUE.is("heat of 8 grams", x.gone(4), 24);
        DUE.is("water of 8 grams, down", x.gone(7), 2);
        DUE.is("wet(0)", x.wet(0), 2);
        x.batch();
        x.part(0, 0, 1000000);
        x.run(1);
        DUE.is("greatest yield of heat", x.gone(4), 24 + 10000000000L);
        DUE.is("greatest yield of water", x.gone(7), 100002);
        DUE.is("the layer's heat", x.warmth(0), 10000);
        x.batch();
        x.part(0, 2, 1000);
        x.run(1);
        DUE.is("no yield of heat", x.gone(4), 24 + 10000000000L);
        DUE.is("no yield of water", x.gone(7), 100002);
        DUE.is("gas", x.gone(0), 8 + 100000 + 100);
    }

    private static void promise7Bounds() {
        HeapSteps x = new HeapSteps(2);
        DUE.yes("bounds(0, 0, 0)", x.bounds(0, 0, 0));
        DUE.yes("bounds(1, 1000000000, 1000000000)", x.bounds(1, 1000000000, 1000000000));
        x.rate(0, 0, 100000);
        x.part(0, 0, 100);
        x.part(1, 0, 100);
        x.water(0, 9);
        x.water(1, 1);
        x.run(1);
        DUE.is("holds nothing", x.wet(0), 0);
        DUE.is("what is above goes down", x.wet(1), 10);
        DUE.is("not too dry", x.left(0, 0), 90);
        DUE.is("too dry", x.left(1, 0), 100);
        DUE.yes("bounds(1, 10, 4)", x.bounds(1, 10, 4));
        for (int wrong : new int[] {MIN, -1, MAX}) {
            DUE.no("bounds of layer " + wrong, x.bounds(wrong, 1, 1));
            DUE.no("bounds dry " + wrong, x.bounds(1, wrong, 1));
            DUE.no("bounds holds " + wrong, x.bounds(1, 100, wrong));
        }
        DUE.no("bounds(2, 1, 1)", x.bounds(2, 1, 1));
        DUE.no("bounds(1, 1000000001, 1)", x.bounds(1, 1000000001, 1));
        DUE.no("bounds(1, 100, 1000000001)", x.bounds(1, 100, 1000000001));
        x.run(1);
        DUE.is("water at the dry bound is enough", x.left(1, 0), 90);
        DUE.is("held", x.wet(1), 4);
        DUE.is("the last one's seeps", x.gone(2), 6);
        x.run(1);
        DUE.is("below the dry bound", x.left(1, 0), 90);
        DUE.is("what is not above stays", x.wet(1), 4);
    }

    private static void promise8Rain() {
        HeapSteps x = new HeapSteps(2);
        DUE.yes("rain(100000)", x.rain(100000));
        for (int grams : new int[] {MIN, -1, 100001, MAX}) {
            DUE.no("rain of " + grams, x.rain(grams));
        }
        DUE.is("no rain between minutes", x.wet(0), 0);
        x.run(3);
        DUE.is("wet(0)", x.wet(0), 300000);
        DUE.is("wet(1)", x.wet(1), 0);
        DUE.yes("rain(1)", x.rain(1));
        x.run(2);
        DUE.is("wet(0)", x.wet(0), 300002);
        DUE.yes("rain(0)", x.rain(0));
        x.run(2);
        DUE.is("wet(0)", x.wet(0), 300002);
        DUE.is("gone(3)", x.gone(3), 300002);
        DUE.is("balance(1)", x.balance(1), 0);
    }

    private static void promise9Loss() {
        HeapSteps x = new HeapSteps(2);
        x.water(0, 1);
        x.water(1, 1);
        x.heat(0, 1999999);
        x.heat(1, 999999);
        DUE.yes("loss(1)", x.loss(1));
        for (int millionths : new int[] {MIN, -1, 1000001, MAX}) {
            DUE.no("loss of " + millionths, x.loss(millionths));
        }
        x.run(1);
        DUE.is("one millionth, down", x.warmth(0), 1999998);
        DUE.is("one millionth of less than a million", x.warmth(1), 999999);
        DUE.yes("loss(500000)", x.loss(500000));
        x.run(1);
        DUE.is("half of it", x.warmth(0), 999999);
        DUE.is("half of it, down", x.warmth(1), 500000);
        DUE.yes("loss(0)", x.loss(0));
        x.run(1);
        DUE.is("no loss", x.warmth(0), 999999);
        DUE.yes("loss(1000000)", x.loss(1000000));
        x.run(1);
        DUE.is("all of it", x.warmth(0), 0);
        DUE.is("all of it", x.warmth(1), 0);
        DUE.is("gone(5)", x.gone(5), 1999999 + 999999);
        DUE.is("balance(2)", x.balance(2), 0);
    }

    private static void promise10Fan() {
        HeapSteps x = new HeapSteps(1);
        for (int wrong : new int[] {MIN, -1, 1000001, MAX}) {
            DUE.no("fan of target " + wrong, x.fan(wrong, 1, 1));
        }
        for (int wrong : new int[] {MIN, -1001, 1001, MAX}) {
            DUE.no("fan of P " + wrong, x.fan(0, wrong, 1));
            DUE.no("fan of I " + wrong, x.fan(0, 1, wrong));
        }
        x.water(0, 10);
        x.heat(0, 3000);
        x.run(1);
        DUE.is("a refused fan is not told", x.air(), 0);
        DUE.yes("fan(100, 1000, 0)", x.fan(100, 1000, 0));
        DUE.is("not set before a minute went", x.air(), 0);
        x.run(1);
        DUE.is("P times e", x.air(), 200);
        DUE.yes("fan(1000000, -1000, -1000)", x.fan(1000000, -1000, -1000));
        DUE.is("it stays until the minute's end", x.air(), 200);
        x.run(1);
        DUE.is("cut to 1000", x.air(), 1000);
        DUE.yes("fan(0, 1000, 1000)", x.fan(0, 1000, 1000));
        x.run(1);
        DUE.is("P and I, the sum anew", x.air(), 600);
        DUE.no("fan(0, 0, 1001)", x.fan(0, 0, 1001));
        x.run(1);
        DUE.is("a refused one leaves the sum", x.air(), 900);
        DUE.yes("fan(0, 0, 500)", x.fan(0, 0, 500));
        x.run(1);
        DUE.is("I alone, the sum anew", x.air(), 150);
        x.run(1);
        DUE.is("I alone, a second minute", x.air(), 300);
        DUE.yes("fan(0, 0, 0)", x.fan(0, 0, 0));
        x.run(1);
        DUE.is("P and I of 0", x.air(), 0);
    }

    private static void promise11Limit() {
        HeapSteps x = new HeapSteps(2);
        x.water(0, 1);
        x.water(1, 1);
        x.heat(1, 1000000000);
        DUE.is("untold limit: at it", x.run(5), 5);
        x.heat(1, 1);
        DUE.is("untold limit: above it", x.run(5), 0);
        DUE.no("limit(-1)", x.limit(-1));
        DUE.no("limit(1000000001)", x.limit(1000000001));
        DUE.no("limit(MIN)", x.limit(MIN));
        DUE.no("limit(MAX)", x.limit(MAX));
        x.batch();
        DUE.yes("limit(0)", x.limit(0));
        DUE.is("warmth 0 is not above 0", x.run(2), 2);
        x.water(0, 10);
        x.heat(0, 9);
        DUE.is("warmth 0, down", x.run(2), 2);
        x.heat(0, 1);
        DUE.is("warmth 1 is above 0", x.run(2), 0);
        DUE.no("limit(-5)", x.limit(-5));
        DUE.is("a refused one changes nothing", x.run(2), 0);
        DUE.yes("limit(1)", x.limit(1));
        DUE.is("warmth 1 is not above 1", x.run(2), 2);
        DUE.yes("limit(1000000000)", x.limit(1000000000));
        DUE.is("minutes that ran", x.gone(8), 11);
    }
}
