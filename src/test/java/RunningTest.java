/** Promises 12 to 20: running, and what is asked or done then. */
public final class RunningTest {
    private static final Due DUE = new Due();
    private static final int MIN = Integer.MIN_VALUE;
    private static final int MAX = Integer.MAX_VALUE;

    public static void main(String[] args) {
        promise12Run();
        promise12RunLimited();
        promise12RainComesFirst();
        promise12LayerByLayer();
        promise12WarmthTakenOnce();
        promise12LossBehindBreaking();
        promise12FanBehindLoss();
        promise12HoldsBehindFan();
        promise12GreatHeat();
        promise13To15Asked();
        promise15Warmth();
        promise16AirFollowsGreatestWarmth();
        promise16AirTogether();
        promise16AirSumCut();
        promise17Turn();
        promise18Gone();
        promise19Balance();
        promise20Batch();
        DUE.end();
    }

    private static void promise12Run() {
        HeapSteps x = new HeapSteps(1);
        for (int minutes : new int[] {MIN, -1, 0, 1001, 20000, MAX}) {
            DUE.is("run(" + minutes + ")", x.run(minutes), -1);
        }
        DUE.is("minutes", x.gone(8), 0);
        DUE.is("run(1)", x.run(1), 1);
        DUE.is("run(998)", x.run(998), 998);
        for (int i = 0; i < 19; i++) {
            DUE.is("run(1000)", x.run(1000), 1000);
        }
        DUE.is("minutes", x.gone(8), 19999);
        x.rain(5);
        DUE.is("run(2) to 20001", x.run(2), -1);
        DUE.is("a refused one changes nothing", x.wet(0), 0);
        DUE.is("run(1) to 20000", x.run(1), 1);
        DUE.is("run(1) to 20001", x.run(1), -1);
        x.batch();
        DUE.is("a batch leaves the minutes", x.run(1), -1);
        DUE.is("minutes", x.gone(8), 20000);
    }

    /** Layer 1 has warmth 0, 10, 19, 27; running ends before a minute that begins too warm. */
    private static void promise12RunLimited() {
        HeapSteps x = new HeapSteps(2);
        x.part(1, 0, 1000);
        x.rate(0, 0, 100000);
        x.yields(0, 100, 1000);
        x.rain(1);
        x.limit(10);
        DUE.is("ends before the third minute", x.run(5), 2);
        DUE.is("warmth(1)", x.warmth(1), 19);
        DUE.is("two minutes of rain", x.wet(0), 2);
        DUE.is("above the limit at once", x.run(5), 0);
        x.limit(18);
        DUE.is("above the limit at once", x.run(1), 0);
        DUE.is("no rain in a minute that does not run", x.wet(0), 2);
        x.limit(19);
        DUE.is("at the limit", x.run(1000), 1);
        DUE.is("warmth(1)", x.warmth(1), 27);
        DUE.is("minutes", x.gone(8), 3);
    }

    /** Rain makes it wet enough, and less warm, before it breaks. */
    private static void promise12RainComesFirst() {
        HeapSteps x = new HeapSteps(1);
        x.rate(0, 0, 100000);
        x.rate(1, 6, 100000);
        x.rate(2, 5, 100000);
        x.part(0, 0, 100);
        x.part(0, 1, 100);
        x.part(0, 2, 100);
        x.heat(0, 5000);
        x.bounds(0, 700, 1000000000);
        x.rain(700);
        DUE.is("warmth before", x.warmth(0), 16);
        x.run(1);
        DUE.is("wet enough by rain", x.left(0, 0), 90);
        DUE.is("less warm by rain", x.left(0, 1), 100);
        DUE.is("warm enough still", x.left(0, 2), 90);
    }

    /** What comes from above is there when the next layer breaks, in the same minute. */
    private static void promise12LayerByLayer() {
        HeapSteps x = new HeapSteps(3);
        x.rate(0, 0, 100000);
        x.yields(0, 0, 1000);
        for (int layer = 0; layer < 3; layer++) {
            x.part(layer, 0, 1000);
        }
        x.bounds(0, 0, 0);
        x.bounds(1, 100, 50);
        x.bounds(2, 150, 60);
        x.run(1);
        DUE.is("left(0, 0)", x.left(0, 0), 900);
        DUE.is("left(1, 0)", x.left(1, 0), 900);
        DUE.is("left(2, 0)", x.left(2, 0), 900);
        DUE.is("wet(0)", x.wet(0), 0);
        DUE.is("wet(1)", x.wet(1), 50);
        DUE.is("wet(2)", x.wet(2), 60);
        DUE.is("seeped", x.gone(2), 190);
        x.bounds(2, 1000, 60);
        x.run(1);
        DUE.is("too dry", x.left(2, 0), 900);
        DUE.is("seeped", x.gone(2), 190 + 180);
    }

    /** The heat that part 0 makes does not warm part 1 in the same minute. */
    private static void promise12WarmthTakenOnce() {
        HeapSteps x = new HeapSteps(1);
        x.rate(0, 0, 100000);
        x.yields(0, 100000, 0);
        x.rate(1, 1, 100000);
        x.part(0, 0, 1000);
        x.part(0, 1, 1000);
        x.run(1);
        DUE.is("left(0, 1)", x.left(0, 1), 1000);
        x.run(1);
        DUE.is("left(0, 1)", x.left(0, 1), 900);
    }

    private static void promise12LossBehindBreaking() {
        HeapSteps x = new HeapSteps(1);
        x.rate(0, 0, 100000);
        x.yields(0, 50, 0);
        x.part(0, 0, 1000);
        x.loss(100000);
        x.run(1);
        DUE.is("made", x.gone(4), 5000);
        DUE.is("a tenth of it lost", x.gone(5), 500);
        DUE.is("warmth", x.warmth(0), 5);
    }

    private static void promise12FanBehindLoss() {
        HeapSteps x = new HeapSteps(1);
        x.water(0, 1000000);
        x.heat(0, 500000000);
        x.fan(0, 1000, 0);
        x.run(1);
        DUE.is("nothing is driven off in the first minute", x.gone(1), 0);
        DUE.is("air", x.air(), 500);
        x.run(1);
        DUE.is("500 millionths", x.gone(1), 500);
        DUE.is("600 heat a gram", x.gone(6), 300000);
        DUE.is("wet", x.wet(0), 999500);
        DUE.is("air", x.air(), 499);
        x.loss(1000000);
        x.run(1);
        DUE.is("all was lost before", x.gone(5), 499700000);
        DUE.is("water is driven off without heat", x.gone(1), 500 + 498);
        DUE.is("no heat was there", x.gone(6), 300000);
        x.loss(0);
        x.batch();
        x.fan(1000000, -1000, 0);
        x.run(1);
        x.water(0, 1999);
        x.heat(0, 599);
        x.run(1);
        DUE.is("1000 millionths, down", x.gone(1), 500 + 498 + 1);
        DUE.is("what heat there is", x.gone(6), 300000 + 599);
        DUE.is("balance(1)", x.balance(1), 0);
        DUE.is("balance(2)", x.balance(2), 0);
    }

    /** Water is driven off before what is above goes down. */
    private static void promise12HoldsBehindFan() {
        HeapSteps x = new HeapSteps(2);
        x.fan(1000000, -1000, 0);
        x.run(1);
        x.water(0, 10000);
        x.bounds(0, 0, 9000);
        x.run(1);
        DUE.is("wet(0)", x.wet(0), 9000);
        DUE.is("wet(1): 10 from above are driven off only with 1000", x.wet(1), 990);
        DUE.is("driven off", x.gone(1), 10);
        x.water(1, 10);
        x.water(0, 1000);
        x.run(1);
        DUE.is("wet(1): 990 came from above before the fan", x.wet(1), 1989);
        DUE.is("driven off", x.gone(1), 10 + 10 + 1);
        DUE.is("balance(1)", x.balance(1), 0);
    }

    /** Heat times millionths is more than a long holds. */
    private static void promise12GreatHeat() {
        HeapSteps x = new HeapSteps(1);
        x.rate(0, 0, 100000);
        x.yields(0, 100000, 0);
        for (int i = 0; i < 400; i++) {
            x.part(0, 0, 1000000);
        }
        x.run(20);
        long made = x.gone(4);
        DUE.yes("more than 30 billion thousands were made", made > 30000000000000L);
        x.loss(999999);
        x.batch();
        for (int i = 0; i < 50; i++) {
            x.part(0, 0, 1000000);
        }
        x.run(1);
        DUE.is("made", x.gone(4) - made, 500000000000L);
        DUE.is("lost", x.gone(5), 499999500000L);
        HeapSteps y = new HeapSteps(1);
        y.rate(0, 0, 100000);
        y.yields(0, 100000, 0);
        for (int i = 0; i < 400; i++) {
            y.part(0, 0, 1000000);
        }
        y.run(10);
        y.loss(900000);
        long heat = y.gone(4);
        y.rate(0, 1, 0);
        y.run(1);
        DUE.is("nine tenths of it", y.gone(5), heat / 10 * 9);
        DUE.is("balance(2)", y.balance(2), 0);
    }

    private static void promise13To15Asked() {
        HeapSteps x = new HeapSteps(4);
        x.part(3, 0, 11);
        x.part(3, 1, 22);
        x.part(3, 2, 33);
        x.water(3, 44);
        x.heat(3, 1100);
        x.part(0, 1, 5);
        DUE.is("left(3, 0)", x.left(3, 0), 11);
        DUE.is("left(3, 1)", x.left(3, 1), 22);
        DUE.is("left(3, 2)", x.left(3, 2), 33);
        DUE.is("left(0, 1)", x.left(0, 1), 5);
        DUE.is("wet(3)", x.wet(3), 44);
        DUE.is("warmth(3)", x.warmth(3), 10);
        DUE.is("wet(0)", x.wet(0), 0);
        for (int layer : new int[] {MIN, -1, 4, 6, MAX}) {
            DUE.is("left(" + layer + ", 0)", x.left(layer, 0), -1);
            DUE.is("wet(" + layer + ")", x.wet(layer), -1);
            DUE.is("warmth(" + layer + ")", x.warmth(layer), -1);
        }
        for (int part : new int[] {MIN, -1, 3, 4, MAX}) {
            DUE.is("left(3, " + part + ")", x.left(3, part), -1);
        }
        DUE.is("left(4, 3)", x.left(4, 3), -1);
    }

    private static void promise15Warmth() {
        HeapSteps x = new HeapSteps(1);
        x.heat(0, 1000);
        DUE.is("no mass", x.warmth(0), 0);
        x.part(0, 0, 1);
        DUE.is("mass 1", x.warmth(0), 1000);
        x.part(0, 1, 1);
        DUE.is("mass 2", x.warmth(0), 500);
        x.part(0, 2, 1);
        DUE.is("mass 3, down", x.warmth(0), 333);
        x.water(0, 1);
        DUE.is("mass 4", x.warmth(0), 250);
        x.water(0, 996);
        DUE.is("mass 1000", x.warmth(0), 1);
        x.water(0, 1);
        DUE.is("mass 1001, down", x.warmth(0), 0);
    }

    private static void promise16AirFollowsGreatestWarmth() {
        HeapSteps x = new HeapSteps(3);
        x.fan(40, 1000, 0);
        for (int layer = 0; layer < 3; layer++) {
            x.water(layer, 1);
        }
        x.heat(0, 45);
        x.heat(1, 90);
        x.heat(2, 70);
        x.run(1);
        DUE.is("air by layer 1", x.air(), 50);
        x.heat(0, 55);
        x.run(1);
        DUE.is("air by layer 0", x.air(), 60);
        x.heat(2, 970);
        x.run(1);
        DUE.is("air by layer 2", x.air(), 1000);
        x.heat(2, 1);
        x.run(1);
        DUE.is("air is cut to 1000", x.air(), 1000);
        x.fan(200, 1000, 0);
        x.batch();
        DUE.is("air behind a batch", x.air(), 1000);
        x.run(1);
        DUE.is("air is cut to 0", x.air(), 0);
        // The warmth that counts is the one behind the layers: nothing is left of it.
        x.fan(0, 1000, 0);
        x.water(0, 1);
        x.heat(0, 500);
        x.loss(1000000);
        x.run(1);
        DUE.is("air by the warmth behind the minute", x.air(), 0);
    }

    private static void promise16AirTogether() {
        HeapSteps x = new HeapSteps(1);
        x.water(0, 1);
        x.heat(0, 999);
        x.fan(0, 1, 1);
        x.run(1);
        DUE.is("999 and 999 over 1000, down", x.air(), 1);
        x.run(1);
        DUE.is("999 and 1998 over 1000, down", x.air(), 2);
        x.fan(0, 2, -1);
        x.run(1);
        DUE.is("1998 less 999, down", x.air(), 0);
        x.fan(0, 1000, -100);
        x.run(1);
        DUE.is("900 parts of 999", x.air(), 899);
        x.run(1);
        DUE.is("800 parts of 999", x.air(), 799);
        x.fan(1999, -1000, 500);
        x.run(1);
        DUE.is("1000 less 500", x.air(), 500);
        x.run(1);
        DUE.is("1000 less 1000", x.air(), 0);
    }

    private static void promise16AirSumCut() {
        HeapSteps low = new HeapSteps(1);
        low.fan(1000000, 0, 1);
        low.run(1000);
        low.run(1000);
        low.water(0, 1);
        low.heat(0, 1000000000);
        low.run(1);
        DUE.is("sum is -1000000", low.air(), 0);
        low.batch();
        low.water(0, 1);
        low.heat(0, 2500000);
        low.run(1);
        DUE.is("sum is 500000", low.air(), 500);

        HeapSteps high = new HeapSteps(1);
        high.fan(1000000, 0, 1);
        high.water(0, 1);
        high.heat(0, 1000000000);
        high.run(3);
        DUE.is("sum is 1000000000", high.air(), 1000);
        high.batch();
        high.run(999);
        DUE.is("sum is 1000000", high.air(), 1000);
        high.water(0, 1);
        high.heat(0, 500000);
        high.run(1);
        DUE.is("sum is 500000", high.air(), 500);
    }

    private static void promise17Turn() {
        HeapSteps x = new HeapSteps(4);
        x.part(3, 0, 7);
        x.part(1, 1, 2);
        x.part(2, 1, 1);
        x.part(0, 2, 4);
        x.water(2, 1);
        x.water(3, 4);
        x.heat(0, 4001);
        x.heat(3, 2);
        DUE.is("turn", x.turn(), 1);
        long[][] due = {{2, 1, 1, 2}, {2, 1, 1, 1}, {2, 1, 1, 1}, {1, 0, 1, 1}};
        long[] warmth = {1001 / 6, 1001 / 5, 1001 / 5, 1000 / 3};
        for (int layer = 0; layer < 4; layer++) {
            for (int part = 0; part < 3; part++) {
                DUE.is("turned: left(" + layer + ", " + part + ")",
                        x.left(layer, part), due[layer][part]);
            }
            DUE.is("turned: wet(" + layer + ")", x.wet(layer), due[layer][3]);
            DUE.is("turned: warmth(" + layer + ")", x.warmth(layer), warmth[layer]);
        }
        DUE.is("balance(0)", x.balance(0), 0);
        DUE.is("balance(1)", x.balance(1), 0);
        DUE.is("balance(2)", x.balance(2), 0);
        DUE.is("turn", x.turn(), 2);
        x.batch();
        x.run(1);
        DUE.is("turn behind a batch", x.turn(), 3);
        turnsHeatExactly();
    }

    /** Heat 5003 in all, so 1001 1001 1001 1000 1000 with one gram in each layer. */
    private static void turnsHeatExactly() {
        HeapSteps x = new HeapSteps(5);
        x.water(4, 5);
        x.heat(2, 5003);
        x.bounds(4, 77, 3);
        x.turn();
        for (int layer = 0; layer < 5; layer++) {
            DUE.is("shared heat", x.warmth(layer), layer < 3 ? 1001 : 1000);
        }
        x.water(4, 9);
        x.run(1);
        DUE.is("turning leaves the bounds", x.wet(4), 3);
        HeapSteps one = new HeapSteps(1);
        one.part(0, 0, 9);
        DUE.is("turn of one layer", one.turn(), 1);
        DUE.is("left", one.left(0, 0), 9);
    }

    private static HeapSteps busy() {
        HeapSteps x = new HeapSteps(2);
        x.fan(1000000, -1000, 0);
        x.run(1);
        x.part(0, 0, 1000);
        x.part(1, 2, 500);
        x.rate(0, 0, 100000);
        x.rate(2, 0, 10000);
        x.yields(0, 5000, 500);
        x.yields(2, 100, 10);
        x.water(0, 9950);
        x.bounds(0, 0, 5000);
        x.bounds(1, 0, 4000);
        x.rain(1000);
        x.loss(10000);
        x.run(1);
        return x;
    }

    /**
     * Layer 0: 10950 wet, 100 grams break (heat 500000, water 50), 5000 lost, 11 driven off
     * (heat 6600), 5989 go down. Layer 1: 5 break (heat 500, water 0), 5 lost, 5 driven off
     * (heat 495, all that is there), 1984 seep.
     */
    private static void promise18Gone() {
        HeapSteps x = busy();
        DUE.is("gas", x.gone(0), 105);
        DUE.is("driven off", x.gone(1), 16);
        DUE.is("seeped", x.gone(2), 1984);
        DUE.is("rain", x.gone(3), 1000);
        DUE.is("heat made", x.gone(4), 500500);
        DUE.is("heat lost", x.gone(5), 5005);
        DUE.is("heat driven off", x.gone(6), 7095);
        DUE.is("water made", x.gone(7), 50);
        DUE.is("minutes", x.gone(8), 2);
        for (int what : new int[] {MIN, -1, 9, 10, MAX}) {
            DUE.is("gone(" + what + ")", x.gone(what), -1);
        }
        DUE.is("wet(0)", x.wet(0), 5000);
        DUE.is("wet(1)", x.wet(1), 4000);
        DUE.is("left(0, 0)", x.left(0, 0), 900);
        DUE.is("left(1, 2)", x.left(1, 2), 495);
    }

    private static void promise19Balance() {
        HeapSteps x = busy();
        balanced("run", x);
        x.turn();
        balanced("turned", x);
        x.run(700);
        balanced("run on", x);
        x.batch();
        balanced("batch", x);
        x.part(1, 1, 77);
        x.water(0, 88);
        x.heat(1, 99);
        balanced("put in", x);
        x.run(10);
        balanced("run behind a batch", x);
        for (int what : new int[] {MIN, -1, 3, 4, MAX}) {
            DUE.is("balance(" + what + ")", x.balance(what), -1);
        }
    }

    private static void balanced(String when, HeapSteps x) {
        for (int what = 0; what < 3; what++) {
            DUE.is(when + ": balance(" + what + ")", x.balance(what), 0);
        }
    }

    private static void promise20Batch() {
        HeapSteps x = busy();
        DUE.is("batch", x.batch(), 5000 + 4000 + 900 + 495);
        for (int layer = 0; layer < 2; layer++) {
            for (int part = 0; part < 3; part++) {
                DUE.is("empty: left", x.left(layer, part), 0);
            }
            DUE.is("empty: wet", x.wet(layer), 0);
            DUE.is("empty: warmth", x.warmth(layer), 0);
        }
        DUE.is("the fan stays", x.air(), 1000);
        DUE.is("sums go on: gas", x.gone(0), 105);
        DUE.is("sums go on: minutes", x.gone(8), 2);
        DUE.is("an empty batch", x.batch(), 0);
        x.part(0, 0, 1000);
        x.part(1, 2, 500);
        x.water(0, 9950);
        DUE.is("warmth is 0 without the old heat", x.warmth(1), 0);
        x.run(1);
        // All that was told stays, so the same heap goes the same way.
        DUE.is("again: gas", x.gone(0), 210);
        DUE.is("again: driven off", x.gone(1), 32);
        DUE.is("again: seeped", x.gone(2), 3968);
        DUE.is("again: rain", x.gone(3), 2000);
        DUE.is("again: heat made", x.gone(4), 1001000);
        DUE.is("again: heat lost", x.gone(5), 10010);
        DUE.is("again: heat driven off", x.gone(6), 14190);
        DUE.is("again: water made", x.gone(7), 100);
        DUE.is("again: minutes", x.gone(8), 3);
        x.limit(3);
        x.heat(0, 1000000);
        x.batch();
        x.water(1, 1);
        x.heat(1, 4);
        DUE.is("the limit stays", x.run(1), 0);
        DUE.is("one gram", x.batch(), 1);
    }
}
