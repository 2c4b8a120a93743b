import java.math.BigInteger;

/**
 * The boundary cases that "What it is" and "Terms" name, a test for each sentence: on the last
 * number on this side, and on the first one beyond.
 */
public final class TermsEdgeTest {
    private static final Due DUE = new Due();
    private static final int BILLION = 1000000000;

    public static void main(String[] args) {
        whatItIsLastCall();
        whatItIsLaterCalls();
        allZeroAtFirst();
        massOfAll();
        noMass();
        warmthDown();
        millionthsDown();
        millionthsOfMuch();
        belowFirstRow();
        noRows();
        yieldsZeroAtFirst();
        waterYieldDown();
        rainIntoLayerZero();
        dryBound();
        dryBoundAtFirst();
        dryBoundBeforeAllParts();
        dryLayerGoesOn();
        lossDown();
        fanDrivesDown();
        drivenHeatOrWhatThereIs();
        heldAndAbove();
        aboveGoesOnDown();
        holdsAtFirst();
        fanDown();
        fanTogether();
        fanCut();
        fanByGreatestWarmth();
        fanOfEmptyHeap();
        fanOfGreatWarmth();
        sumCutAbove();
        sumCutBelow();
        sumSinceTold();
        fanNotTold();
        limitAtFirst();
        limitOfSomeLayer();
        limitBeforeAMinute();
        limitBeforeRain();
        sharesUntilNoneIsLeft();
        sharesOfEachKind();
        DUE.end();
    }

    /** "An object is used for at most 512 calls": the 512th is answered like the first. */
    private static void whatItIsLastCall() {
        HeapSteps x = new HeapSteps(6);
        for (int i = 0; i < 510; i++) {
            DUE.yes("call " + i, x.part(5, 2, 1000000));
        }
        DUE.is("call 511", x.turn(), 1);
        DUE.is("call 512", x.left(0, 2), 85000000);
        HeapSteps y = new HeapSteps(1);
        for (int i = 0; i < 511; i++) {
            DUE.is("call " + i, y.turn(), i + 1);
        }
        DUE.is("call 512", y.turn(), 512);
    }

    /** What later calls answer is free, but they end and throw nothing. */
    private static void whatItIsLaterCalls() {
        HeapSteps x = Twin.rich();
        int[] odd = {Integer.MIN_VALUE, -1, 0, 1, 2, 3, 1000, 1000000, BILLION, Integer.MAX_VALUE};
        for (int round = 0; round < 20; round++) {
            for (int a : odd) {
                for (int b : odd) {
                    callAll(x, a, b, odd[round % odd.length]);
                }
            }
        }
        DUE.yes("minutes stay in their bound", x.gone(8) <= 20000);
    }

    private static void callAll(HeapSteps x, int a, int b, int c) {
        x.part(a, b, c);
        x.water(a, b);
        x.heat(a, b);
        x.rate(a, b, c);
        x.yields(a, b, c);
        x.bounds(a, b, c);
        x.rain(a);
        x.loss(a);
        x.fan(a, b, c);
        x.limit(a);
        x.run(a);
        x.left(a, b);
        x.wet(a);
        x.warmth(a);
        x.air();
        x.turn();
        x.gone(a);
        x.balance(a);
        x.batch();
    }

    /** "each with grams of PARTS .., WATER, and HEAT .., all 0 at first". */
    private static void allZeroAtFirst() {
        for (int count = 1; count <= 6; count++) {
            HeapSteps x = new HeapSteps(count);
            for (int layer = 0; layer < count; layer++) {
                for (int part = 0; part < 3; part++) {
                    DUE.is("left at first", x.left(layer, part), 0);
                }
                DUE.is("wet at first", x.wet(layer), 0);
                DUE.is("warmth at first", x.warmth(layer), 0);
                x.water(layer, 1);
                DUE.is("heat at first, by one gram", x.warmth(layer), 0);
            }
            DUE.is("minutes at first", x.gone(8), 0);
            DUE.is("turns at first", x.turn(), 1);
        }
    }

    /** "Its MASS are its parts and its water": each of them one of four grams. */
    private static void massOfAll() {
        for (int without = 0; without < 4; without++) {
            HeapSteps x = new HeapSteps(1);
            for (int part = 0; part < 3; part++) {
                x.part(0, part, part == without ? 0 : 1);
            }
            x.water(0, without == 3 ? 0 : 1);
            x.heat(0, 12);
            DUE.is("three grams", x.warmth(0), 4);
        }
    }

    /** "0 when there is no mass": the heat is there still. */
    private static void noMass() {
        HeapSteps x = new HeapSteps(2);
        x.heat(1, BILLION);
        DUE.is("no mass", x.warmth(1), 0);
        x.limit(0);
        x.rate(0, 0, 100000);
        x.fan(0, 1000, 0);
        DUE.is("no mass is not above a limit of 0", x.run(1), 1);
        DUE.is("no mass sets no fan", x.air(), 0);
        x.loss(500000);
        x.run(1);
        DUE.is("heat is lost without a mass", x.gone(5), BILLION / 2);
        x.part(1, 0, 1);
        DUE.is("a mass of one gram", x.warmth(1), BILLION / 2);
        DUE.is("balance(2)", x.balance(2), 0);
    }

    /** "its heat over its mass, down". */
    private static void warmthDown() {
        HeapSteps x = new HeapSteps(1);
        x.part(0, 0, 1000);
        x.heat(0, 999);
        DUE.is("999 over 1000", x.warmth(0), 0);
        x.heat(0, 1);
        DUE.is("1000 over 1000", x.warmth(0), 1);
        x.heat(0, 999);
        DUE.is("1999 over 1000", x.warmth(0), 1);
        x.heat(0, 1);
        DUE.is("2000 over 1000", x.warmth(0), 2);
    }

    private static long brokenOf(int grams, int millionths) {
        HeapSteps x = new HeapSteps(1);
        x.rate(0, 0, millionths);
        x.part(0, 0, grams);
        x.run(1);
        DUE.is("what broke is not left", x.left(0, 0), grams - x.gone(0));
        return x.gone(0);
    }

    /** "x MILLIONTHS of n are n times x over 1000000, down". */
    private static void millionthsDown() {
        DUE.is("100000 of 0", brokenOf(0, 100000), 0);
        DUE.is("100000 of 9", brokenOf(9, 100000), 0);
        DUE.is("100000 of 10", brokenOf(10, 100000), 1);
        DUE.is("100000 of 19", brokenOf(19, 100000), 1);
        DUE.is("1 of 999999", brokenOf(999999, 1), 0);
        DUE.is("1 of 1000000", brokenOf(1000000, 1), 1);
        DUE.is("99999 of 1000000", brokenOf(1000000, 99999), 99999);
        DUE.is("99999 of 999999", brokenOf(999999, 99999), 99998);
        DUE.is("0 of 1000000", brokenOf(1000000, 0), 0);
    }

    /** Heat of 40000000000000 and above: its millionths pass a long's numbers. */
    private static void millionthsOfMuch() {
        for (int loss : new int[] {1, 230584, 461168, 922337, 999999, 1000000}) {
            HeapSteps x = new HeapSteps(1);
            x.rate(0, 0, 100000);
            x.yields(0, 100000, 0);
            for (int i = 0; i < 480; i++) {
                x.part(0, 0, 1000000);
            }
            x.run(19);
            long before = x.gone(4);
            DUE.yes("much heat", before > 40000000000000L);
            x.loss(loss);
            x.rate(0, 1, 0);
            x.run(1);
            long due = BigInteger.valueOf(before).multiply(BigInteger.valueOf(loss))
                    .divide(BigInteger.valueOf(1000000)).longValueExact();
            DUE.is(loss + " millionths of much", x.gone(5), due);
            DUE.is("balance(2)", x.balance(2), 0);
        }
    }

    /** Of a million grams, so that one millionth is seen. */
    private static long brokenAt(int warmth) {
        HeapSteps x = new HeapSteps(1);
        x.rate(2, 5, 1);
        x.rate(2, 6, 2);
        x.rate(2, 100, 0);
        x.rate(2, 101, 3);
        x.part(0, 2, 1000000);
        x.heat(0, warmth * 1000000);
        x.run(1);
        return x.gone(0);
    }

    /** "from a warmth on it breaks by so many millionths a minute (0 below its first row)". */
    private static void belowFirstRow() {
        DUE.is("far below the first row", brokenAt(0), 0);
        DUE.is("one below the first row", brokenAt(4), 0);
        DUE.is("at the first row", brokenAt(5), 1);
        DUE.is("at the second row", brokenAt(6), 2);
        DUE.is("one below the third row", brokenAt(99), 2);
        DUE.is("at the third row, of 0", brokenAt(100), 0);
        DUE.is("at the fourth row", brokenAt(101), 3);
        DUE.is("far above the fourth row", brokenAt(1000), 3);
    }

    private static void noRows() {
        HeapSteps x = new HeapSteps(1);
        x.rate(0, 0, 100000);
        x.rate(2, 0, 100000);
        for (int part = 0; part < 3; part++) {
            x.part(0, part, 1000000);
        }
        x.heat(0, BILLION);
        x.run(1);
        DUE.is("a part without rows", x.left(0, 1), 1000000);
        DUE.is("gas of the two others", x.gone(0), 200000);
    }

    /** "(both 0 at first)". */
    private static void yieldsZeroAtFirst() {
        HeapSteps x = new HeapSteps(1);
        for (int part = 0; part < 3; part++) {
            x.rate(part, 0, 100000);
            x.part(0, part, 1000000);
        }
        x.run(1);
        DUE.is("all break", x.gone(0), 300000);
        DUE.is("no heat yet", x.gone(4), 0);
        DUE.is("no water yet", x.gone(7), 0);
        DUE.is("wet", x.wet(0), 0);
        DUE.is("warmth", x.warmth(0), 0);
        x.yields(1, 3, 0);
        x.run(1);
        DUE.is("heat of part 1 alone", x.gone(4), 270000);
        DUE.is("no water yet", x.gone(7), 0);
    }

    private static long waterOf(int grams, int thousandths) {
        HeapSteps x = new HeapSteps(1);
        x.rate(1, 0, 100000);
        x.yields(1, 0, thousandths);
        x.part(0, 1, grams * 10);
        x.run(1);
        DUE.is("made water is there", x.wet(0), x.gone(7));
        return x.gone(7);
    }

    /** "its yield of water, times the grams over 1000, down". */
    private static void waterYieldDown() {
        DUE.is("999 of 1 gram", waterOf(1, 999), 0);
        DUE.is("1000 of 1 gram", waterOf(1, 1000), 1);
        DUE.is("500 of 1 gram", waterOf(1, 500), 0);
        DUE.is("500 of 2 grams", waterOf(2, 500), 1);
        DUE.is("1 of 999 grams", waterOf(999, 1), 0);
        DUE.is("1 of 1000 grams", waterOf(1000, 1), 1);
        DUE.is("999 of 1999 grams", waterOf(1999, 999), 1997);
        // Down for each part: two times 999 thousandths are no gram.
        HeapSteps x = new HeapSteps(1);
        for (int part = 0; part < 2; part++) {
            x.rate(part, 0, 100000);
            x.yields(part, 0, 999);
            x.part(0, part, 10);
        }
        x.run(1);
        DUE.is("gas", x.gone(0), 2);
        DUE.is("999 of 1 gram, of two parts", x.gone(7), 0);
    }

    /** "Rain comes into layer 0". */
    private static void rainIntoLayerZero() {
        for (int count = 1; count <= 6; count++) {
            HeapSteps x = new HeapSteps(count);
            x.rain(3);
            x.run(2);
            for (int layer = 0; layer < count; layer++) {
                DUE.is("rain in layer " + layer, x.wet(layer), layer == 0 ? 6 : 0);
            }
            DUE.is("rain", x.gone(3), 6);
        }
    }

    /** "A layer whose water is not less than its DRY bound": in each layer, by its own bound. */
    private static void dryBound() {
        for (int count = 1; count <= 6; count++) {
            HeapSteps x = new HeapSteps(count);
            x.rate(0, 0, 100000);
            for (int layer = 0; layer < count; layer++) {
                x.part(layer, 0, 100);
                x.bounds(layer, 50 + layer, BILLION);
                x.water(layer, 49 + layer);
            }
            x.run(1);
            DUE.is("one gram less than the dry bounds", x.gone(0), 0);
            for (int layer = 0; layer < count; layer++) {
                x.water(layer, 1);
                x.run(1);
                DUE.is("at the dry bound of layer " + layer, x.left(layer, 0), 90);
                x.water(layer, 1);
                x.run(1);
                DUE.is("above the dry bound of layer " + layer, x.left(layer, 0), 81);
                x.bounds(layer, BILLION, BILLION);
            }
            DUE.is("gas", x.gone(0), 19 * count);
        }
    }

    private static void dryBoundAtFirst() {
        HeapSteps x = new HeapSteps(2);
        x.rate(0, 0, 100000);
        x.part(1, 0, 100);
        x.run(1);
        DUE.is("without water, no dry bound told", x.left(1, 0), 90);
        x.bounds(1, 1, BILLION);
        x.run(1);
        DUE.is("without water, a dry bound of 1", x.left(1, 0), 90);
        x.bounds(1, 0, BILLION);
        x.run(1);
        DUE.is("without water, a dry bound of 0", x.left(1, 0), 81);
    }

    /** The layer breaks or not: water that part 0 yields is not waited for, nor does it help. */
    private static void dryBoundBeforeAllParts() {
        HeapSteps x = new HeapSteps(1);
        for (int part = 0; part < 3; part++) {
            x.rate(part, 0, 100000);
            x.yields(part, 0, 1000);
            x.part(0, part, 1000);
        }
        x.bounds(0, 10, BILLION);
        x.water(0, 9);
        x.run(1);
        DUE.is("too dry for all parts", x.gone(0), 0);
        x.rain(1);
        x.run(1);
        DUE.is("wet enough by rain", x.gone(0), 300);
        DUE.is("wet", x.wet(0), 310);
    }

    /** Too dry to break, it loses heat, is driven off, and drains. */
    private static void dryLayerGoesOn() {
        HeapSteps x = new HeapSteps(1);
        x.fan(1000000, -1000, 0);
        x.run(1);
        DUE.is("air", x.air(), 1000);
        x.rate(0, 0, 100000);
        x.part(0, 0, 1000);
        x.water(0, 5000);
        x.heat(0, 100000);
        x.bounds(0, 5001, 4000);
        x.loss(100000);
        x.run(1);
        DUE.is("nothing breaks", x.gone(0), 0);
        DUE.is("lost", x.gone(5), 10000);
        DUE.is("driven off", x.gone(1), 5);
        DUE.is("heat driven off", x.gone(6), 3000);
        DUE.is("seeped", x.gone(2), 995);
        DUE.is("wet", x.wet(0), 4000);
    }

    /** "It loses LOSS millionths of its heat", each layer by itself. */
    private static void lossDown() {
        HeapSteps x = new HeapSteps(3);
        x.loss(1000);
        x.heat(0, 999);
        x.heat(1, 1000);
        x.heat(2, 1999);
        x.run(1);
        DUE.is("1000 of 999, of 1000, of 1999", x.gone(5), 2);
        x.heat(0, 1);
        x.heat(1, 1);
        x.heat(2, 2);
        x.run(1);
        DUE.is("1000 of 1000, of 1000, of 2000", x.gone(5), 2 + 4);
        DUE.is("balance(2)", x.balance(2), 0);
    }

    /** A heap whose fan is set, with nothing in it yet. */
    private static HeapSteps blown(int layers, int air) {
        HeapSteps x = new HeapSteps(layers);
        x.fan(air, -1000, 0);
        x.run(1);
        DUE.is("air", x.air(), air);
        return x;
    }

    private static long drivenOf(int air, int grams) {
        HeapSteps x = blown(1, air);
        x.water(0, grams);
        x.run(1);
        DUE.is("what was driven off is not there", x.wet(0), grams - x.gone(1));
        return x.gone(1);
    }

    /** "the FAN's millionths of its water are driven off (the fan is 0 .. 1000)". */
    private static void fanDrivesDown() {
        DUE.is("fan 0 of 1000000", drivenOf(0, 1000000), 0);
        DUE.is("fan 1 of 999999", drivenOf(1, 999999), 0);
        DUE.is("fan 1 of 1000000", drivenOf(1, 1000000), 1);
        DUE.is("fan 999 of 1000000", drivenOf(999, 1000000), 999);
        DUE.is("fan 999 of 1001", drivenOf(999, 1001), 0);
        DUE.is("fan 999 of 1002", drivenOf(999, 1002), 1);
        DUE.is("fan 1000 of 999", drivenOf(1000, 999), 0);
        DUE.is("fan 1000 of 1000", drivenOf(1000, 1000), 1);
        DUE.is("fan 1000 of 1999", drivenOf(1000, 1999), 1);
        DUE.is("fan 1000 of 0", drivenOf(1000, 0), 0);
    }

    private static void drivenHeat(int grams, int heat, int due) {
        HeapSteps x = blown(1, 1000);
        x.water(0, grams);
        x.heat(0, heat);
        x.run(1);
        String of = "of " + grams + " grams and heat " + heat;
        DUE.is(of + ": driven off", x.gone(1), grams / 1000);
        DUE.is(of + ": heat driven off", x.gone(6), due);
        DUE.is(of + ": warmth", x.warmth(0), (heat - due) / x.wet(0));
        DUE.is(of + ": balance(2)", x.balance(2), 0);
    }

    /** "600 heat for each gram of that, or what there is". */
    private static void drivenHeatOrWhatThereIs() {
        drivenHeat(1000, 0, 0);
        drivenHeat(1000, 1, 1);
        drivenHeat(1000, 599, 599);
        drivenHeat(1000, 600, 600);
        drivenHeat(1000, 601, 600);
        drivenHeat(3000, 1799, 1799);
        drivenHeat(3000, 1800, 1800);
        drivenHeat(3000, 1801, 1800);
        drivenHeat(999, 600, 0);
    }

    /** "Of its water what is above what it HOLDS .. goes into the next layer". */
    private static void heldAndAbove() {
        for (int count = 1; count <= 6; count++) {
            for (int layer = 0; layer < count; layer++) {
                HeapSteps x = new HeapSteps(count);
                x.bounds(layer, 0, 10);
                x.water(layer, 10);
                x.run(1);
                DUE.is("as much as it holds", x.wet(layer), 10);
                DUE.is("nothing seeped", x.gone(2), 0);
                x.water(layer, 1);
                x.run(1);
                DUE.is("one above what it holds", x.wet(layer), 10);
                boolean last = layer == count - 1;
                DUE.is("the next layer", x.wet(layer + 1), last ? -1 : 1);
                DUE.is("the last one's seeps", x.gone(2), last ? 1 : 0);
                DUE.is("balance(1)", x.balance(1), 0);
            }
        }
    }

    /** Through layers that hold nothing it goes down to the last one in one minute. */
    private static void aboveGoesOnDown() {
        for (int count = 2; count <= 6; count++) {
            HeapSteps x = new HeapSteps(count);
            for (int layer = 0; layer < count - 1; layer++) {
                x.bounds(layer, 0, 0);
            }
            x.bounds(count - 1, 0, 4);
            x.rain(4);
            x.run(1);
            DUE.is("at the bottom in one minute", x.wet(count - 1), 4);
            DUE.is("not above what the last one holds", x.gone(2), 0);
            x.run(1);
            DUE.is("the bottom holds no more", x.wet(count - 1), 4);
            DUE.is("seeped", x.gone(2), 4);
        }
    }

    /** "HOLDS (1000000000 at first)". */
    private static void holdsAtFirst() {
        HeapSteps x = new HeapSteps(1);
        x.rain(100000);
        for (int i = 0; i < 10; i++) {
            x.run(1000);
        }
        DUE.is("wet", x.wet(0), BILLION);
        DUE.is("at what it holds", x.gone(2), 0);
        x.rain(1);
        x.run(1);
        DUE.is("one gram above", x.gone(2), 1);
        DUE.is("wet", x.wet(0), BILLION);
    }

    /** The fan of an empty heap: e is 0 less the target. */
    private static int airOf(int target, int p, int i) {
        HeapSteps x = new HeapSteps(2);
        x.fan(target, p, i);
        x.run(1);
        return x.air();
    }

    /** "(..) over 1000, down". */
    private static void fanDown() {
        DUE.is("0 over 1000", airOf(0, -1, 0), 0);
        DUE.is("999 over 1000", airOf(999, -1, 0), 0);
        DUE.is("1000 over 1000", airOf(1000, -1, 0), 1);
        DUE.is("1999 over 1000", airOf(1999, -1, 0), 1);
        DUE.is("2000 over 1000", airOf(2000, -1, 0), 2);
        DUE.is("999999 over 1000", airOf(999999, -1, 0), 999);
        DUE.is("I: 999 over 1000", airOf(999, 0, -1), 0);
        DUE.is("I: 1000 over 1000", airOf(1000, 0, -1), 1);
        DUE.is("I: 1999 over 1000", airOf(1999, 0, -1), 1);
    }

    /** "(P times e and I times the sum, together)". */
    private static void fanTogether() {
        DUE.is("500 and 500", airOf(500, -1, -1), 1);
        DUE.is("499 and 499", airOf(499, -1, -1), 0);
        DUE.is("3000 less 1000", airOf(1000, -3, 1), 2);
        DUE.is("2001 less 1334", airOf(667, -3, 2), 0);
        DUE.is("1000 less 1000000", airOf(1000, -1, 1000), 0);
    }

    /** "cut to 0 .. 1000". */
    private static void fanCut() {
        DUE.is("999", airOf(999, -1000, 0), 999);
        DUE.is("1000", airOf(1000, -1000, 0), 1000);
        DUE.is("1001", airOf(1001, -1000, 0), 1000);
        DUE.is("1000 by 1000000", airOf(1000000, -1, 0), 1000);
        DUE.is("2000000 at most", airOf(1000000, -1000, -1000), 1000);
        DUE.is("1", airOf(1, -1000, 0), 1);
        DUE.is("0", airOf(0, -1000, 0), 0);
        DUE.is("-1", airOf(1, 1000, 0), 0);
        DUE.is("-1 over 1000", airOf(1, 1, 0), 0);
        DUE.is("-2000000 at least", airOf(1000000, 1000, 1000), 0);
    }

    /** "e is the greatest warmth of all layers less the TARGET". */
    private static void fanByGreatestWarmth() {
        for (int count = 1; count <= 6; count++) {
            for (int warmest = 0; warmest < count; warmest++) {
                HeapSteps x = new HeapSteps(count);
                for (int layer = 0; layer < count; layer++) {
                    x.water(layer, 1);
                    x.heat(layer, layer == warmest ? 123 : 122 - layer);
                }
                x.fan(100, 1000, 0);
                x.run(1);
                DUE.is("warmest is " + warmest + " of " + count, x.air(), 23);
            }
        }
    }

    private static void fanOfEmptyHeap() {
        DUE.is("warmth 0 less 7", airOf(7, -1000, 0), 7);
        HeapSteps x = new HeapSteps(2);
        x.heat(0, BILLION);
        x.fan(7, -1000, 0);
        x.run(1);
        DUE.is("heat without a mass is no warmth", x.air(), 7);
    }

    /** Water that goes down leaves 300000000000 heat on one gram: e passes an int's numbers. */
    private static void fanOfGreatWarmth() {
        for (int[] told : new int[][] {{1000, 0, 1000}, {-1000, 0, 0}, {0, 1, 1000},
            {0, -1, 0}, {-1, 300, 0}, {-1, 301, 1000}}) {
            HeapSteps x = new HeapSteps(1);
            x.water(0, 300);
            for (int i = 0; i < 300; i++) {
                x.heat(0, BILLION);
            }
            x.bounds(0, 0, 1);
            x.fan(0, told[0], told[1]);
            DUE.is("at the limit", x.run(1), 1);
            DUE.is("warmth", x.warmth(0), 300000000000L);
            DUE.is("P " + told[0] + ", I " + told[1], x.air(), told[2]);
        }
    }

    /** The sum comes to 999999999 and so on, then goes down by 1000000 a minute to be seen. */
    private static void sumCutAbove(int first, int due) {
        HeapSteps x = new HeapSteps(1);
        x.fan(1000000, 0, 1000);
        x.water(0, 1);
        x.heat(0, BILLION);
        x.run(1);
        x.batch();
        x.water(0, 1);
        x.heat(0, first + 1000000 - (BILLION - 1000000));
        x.run(1);
        x.batch();
        x.run(999);
        DUE.is("air while the sum is 1000000", x.air(), 1000);
        x.water(0, 1);
        x.heat(0, 500);
        x.run(1);
        DUE.is("sum of " + first, x.air(), due);
    }

    /** "cut to -1000000000 .. 1000000000", above. */
    private static void sumCutAbove() {
        sumCutAbove(BILLION - 400, 100);
        sumCutAbove(BILLION - 1, 499);
        sumCutAbove(BILLION, 500);
        sumCutAbove(BILLION + 1, 500);
        sumCutAbove(BILLION + 400, 500);
    }

    /** The sum comes to -1000000000 and so on, then in two minutes back to be seen. */
    private static void sumCutBelow(int lessThanBillion, int due) {
        HeapSteps x = new HeapSteps(1);
        x.fan(1000000, 0, 1000);
        x.run(999);
        x.water(0, 1);
        x.heat(0, 500);
        x.run(1);
        x.batch();
        // Now the sum is -999999500, and the next minute brings it to where it is wanted.
        x.water(0, 1);
        x.heat(0, 1000000 - 500 + lessThanBillion);
        x.run(1);
        x.batch();
        x.water(0, 1);
        x.heat(0, BILLION);
        x.run(1);
        DUE.is("air while the sum is below 0", x.air(), 0);
        x.batch();
        x.water(0, 1);
        x.heat(0, 2000000 + 500);
        x.run(1);
        DUE.is("sum of " + lessThanBillion + " above -1000000000", x.air(), due);
    }

    /** "cut to -1000000000 .. 1000000000", below. */
    private static void sumCutBelow() {
        sumCutBelow(400, 900);
        sumCutBelow(1, 501);
        sumCutBelow(0, 500);
        sumCutBelow(-1, 500);
        sumCutBelow(-400, 500);
    }

    /** "the SUM of all e since the fan was told". */
    private static void sumSinceTold() {
        HeapSteps x = new HeapSteps(1);
        x.water(0, 1);
        x.heat(0, 10);
        x.run(7);
        x.fan(0, 0, 1000);
        x.run(1);
        DUE.is("minutes before it was told do not count", x.air(), 10);
        x.run(2);
        DUE.is("three minutes since it was told", x.air(), 30);
        DUE.no("refused", x.fan(0, 0, 1001));
        x.run(1);
        DUE.is("four minutes since it was told", x.air(), 40);
        x.fan(0, 0, 1000);
        x.run(1);
        DUE.is("one minute since it was told anew", x.air(), 10);
        x.batch();
        x.run(1);
        DUE.is("the sum stays over a batch", x.air(), 10);
        x.turn();
        x.water(0, 1);
        x.heat(0, 5);
        x.run(1);
        DUE.is("and goes on", x.air(), 15);
    }

    /** "it is 0 as long as none was told". */
    private static void fanNotTold() {
        HeapSteps x = new HeapSteps(1);
        x.water(0, 1000000);
        for (int i = 0; i < 10; i++) {
            x.heat(0, BILLION);
        }
        x.run(1000);
        DUE.is("air", x.air(), 0);
        x.fan(0, 1001, 1000);
        x.fan(1000001, 1000, 1000);
        x.run(1000);
        DUE.is("air behind refused ones", x.air(), 0);
        DUE.is("nothing is driven off", x.gone(1), 0);
        x.fan(0, 1000, 0);
        DUE.is("told, not set yet", x.air(), 0);
        x.run(1);
        DUE.is("nothing is driven off in that minute", x.gone(1), 0);
        DUE.is("set behind it", x.air(), 1000);
        x.run(1);
        DUE.is("driven off in the next minute", x.gone(1), 1000);
    }

    /** "the LIMIT (1000000000 at first)". */
    private static void limitAtFirst() {
        HeapSteps x = new HeapSteps(1);
        x.water(0, 1);
        x.heat(0, BILLION);
        DUE.is("at the limit", x.run(2), 2);
        x.heat(0, 1);
        DUE.is("above the limit", x.run(2), 0);
        x.water(0, 1);
        DUE.is("below the limit", x.run(2), 2);
    }

    /** "before a minute in which some layer's warmth is above the LIMIT". */
    private static void limitOfSomeLayer() {
        for (int count = 1; count <= 6; count++) {
            for (int layer = 0; layer < count; layer++) {
                HeapSteps x = new HeapSteps(count);
                x.limit(50);
                x.part(layer, 1, 2);
                x.heat(layer, 101);
                DUE.is("at the limit in layer " + layer, x.run(3), 3);
                x.heat(layer, 1);
                DUE.is("above the limit in layer " + layer, x.run(3), 0);
                DUE.is("minutes", x.gone(8), 3);
            }
        }
    }

    /** Warmth 10, 21, 32: the minute that goes above the limit runs, the one behind it not. */
    private static void limitBeforeAMinute() {
        for (int[] told : new int[][] {{9, 0}, {10, 1}, {20, 1}, {21, 2}, {31, 2}, {32, 3}}) {
            HeapSteps x = new HeapSteps(1);
            x.rate(0, 0, 100000);
            x.yields(0, 81, 0);
            x.part(0, 0, 1000);
            x.heat(0, 10999);
            x.limit(told[0]);
            DUE.is("limit " + told[0], x.run(3), told[1]);
            DUE.is("limit " + told[0] + ": minutes", x.gone(8), told[1]);
        }
    }

    /** Rain that would cool the layer does not come in a minute that does not run. */
    private static void limitBeforeRain() {
        HeapSteps x = new HeapSteps(1);
        x.water(0, 1);
        x.heat(0, 11);
        x.limit(10);
        x.rain(100);
        DUE.is("above the limit", x.run(1), 0);
        DUE.is("no rain", x.gone(3), 0);
        x.limit(11);
        DUE.is("at the limit", x.run(1), 1);
        x.limit(0);
        DUE.is("cooled by rain", x.run(5), 5);
    }

    /** "n over L, down, the uppermost ones one more until none is left". */
    private static void sharesUntilNoneIsLeft() {
        for (int count = 1; count <= 6; count++) {
            for (int units = 0; units <= 3 * count + 1; units++) {
                HeapSteps x = new HeapSteps(count);
                x.water(units % count, units);
                DUE.is("turn", x.turn(), 1);
                long all = 0;
                for (int layer = 0; layer < count; layer++) {
                    int more = layer < units % count ? 1 : 0;
                    DUE.is(units + " for " + count + ": layer " + layer, x.wet(layer),
                            units / count + more);
                    all += x.wet(layer);
                }
                DUE.is("none is left", all, units);
            }
        }
    }

    /** Each by itself: one unit over of every kind, and it is always the uppermost's. */
    private static void sharesOfEachKind() {
        HeapSteps x = new HeapSteps(3);
        for (int part = 0; part < 3; part++) {
            x.part(part, part, 4);
        }
        x.water(2, 4);
        x.heat(1, 8 * 100 + 1);
        x.heat(2, 4 * 100);
        x.turn();
        DUE.is("uppermost: warmth", x.warmth(0), 401 / 8);
        for (int layer = 0; layer < 3; layer++) {
            for (int part = 0; part < 3; part++) {
                DUE.is("part " + part, x.left(layer, part), layer == 0 ? 2 : 1);
            }
            DUE.is("water", x.wet(layer), layer == 0 ? 2 : 1);
            DUE.is("warmth", x.warmth(layer), layer == 0 ? 50 : 100);
        }
        DUE.is("a second turn", x.turn(), 2);
        DUE.is("shares stay", x.left(0, 0), 2);
        HeapSteps heat = new HeapSteps(6);
        heat.heat(0, 11);
        heat.turn();
        for (int layer = 0; layer < 6; layer++) {
            heat.water(layer, 1);
            DUE.is("11 of heat for 6", heat.warmth(layer), layer < 5 ? 2 : 1);
        }
    }
}
