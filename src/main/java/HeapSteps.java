/** Heaps of compost, minute by minute in whole units. */
public final class HeapSteps {
    public static final int NONE = -1;

    private static final int MOST_LAYERS = 6;
    private static final int MOST_ROWS = 4;
    private static final int MOST_MINUTES = 20000;
    private static final int MILLION = 1000000;
    private static final int BILLION = 1000000000;
    private static final long MOST_HEAT = 1000000000000000L;
    private static final int HEAT_OF_DRIVEN_GRAM = 600;

    // The stocks of a layer: the parts by their numbers, then water, then heat.
    private static final int PARTS = 3;
    private static final int WATER = 3;
    private static final int HEAT = 4;
    private static final int STOCKS = 5;

    // The sums, by the numbers that gone(what) knows them by.
    private static final int GAS = 0;
    private static final int WATER_DRIVEN = 1;
    private static final int WATER_SEEPED = 2;
    private static final int RAINED = 3;
    private static final int HEAT_MADE = 4;
    private static final int HEAT_LOST = 5;
    private static final int HEAT_DRIVEN = 6;
    private static final int WATER_MADE = 7;
    private static final int MINUTES = 8;
    private static final int SUMS = 9;

    private final Layer[] layers;
    private final Kind[] kinds = new Kind[PARTS];
    private final Fan blower = new Fan();
    private final long[] sums = new long[SUMS];
    private final long[] putIn = new long[STOCKS];
    private final long[] takenAway = new long[STOCKS];
    private int rainGrams = 0;
    private int lossMillionths = 0;
    private int limitWarmth = BILLION;
    private int turns = 0;

    public HeapSteps(int layers) {
        int count = within(layers, 1, MOST_LAYERS) ? layers : 1;
        this.layers = new Layer[count];
        for (int i = 0; i < count; i++) {
            this.layers[i] = new Layer();
        }
        for (int i = 0; i < PARTS; i++) {
            kinds[i] = new Kind();
        }
    }

    public boolean part(int layer, int part, int grams) {
        if (!isPart(part) || !within(grams, 0, MILLION)) {
            return false;
        }
        return bring(layerAt(layer), part, grams, BILLION);
    }

    public boolean water(int layer, int grams) {
        if (!within(grams, 0, MILLION)) {
            return false;
        }
        return bring(layerAt(layer), WATER, grams, BILLION);
    }

    public boolean heat(int layer, int units) {
        if (!within(units, 0, BILLION)) {
            return false;
        }
        return bring(layerAt(layer), HEAT, units, MOST_HEAT);
    }

    public boolean rate(int part, int warmth, int millionths) {
        if (!isPart(part) || !within(warmth, 0, MILLION) || !within(millionths, 0, 100000)) {
            return false;
        }
        return kinds[part].addRow(warmth, millionths);
    }

    public boolean yields(int part, int heat, int water) {
        if (!isPart(part) || !within(heat, 0, 100000) || !within(water, 0, 1000)) {
            return false;
        }
        kinds[part].heatYield = heat;
        kinds[part].waterYield = water;
        return true;
    }

    public boolean bounds(int layer, int dry, int holds) {
        Layer at = layerAt(layer);
        if (at == null || !within(dry, 0, BILLION) || !within(holds, 0, BILLION)) {
            return false;
        }
        at.dry = dry;
        at.holds = holds;
        return true;
    }

    public boolean rain(int grams) {
        if (!within(grams, 0, 100000)) {
            return false;
        }
        rainGrams = grams;
        return true;
    }

    public boolean loss(int millionths) {
        if (!within(millionths, 0, MILLION)) {
            return false;
        }
        lossMillionths = millionths;
        return true;
    }

    public boolean fan(int target, int p, int i) {
        if (!within(target, 0, MILLION) || !within(p, -1000, 1000) || !within(i, -1000, 1000)) {
            return false;
        }
        blower.tell(target, p, i);
        return true;
    }

    public boolean limit(int warmth) {
        if (!within(warmth, 0, BILLION)) {
            return false;
        }
        limitWarmth = warmth;
        return true;
    }

    public int run(int minutes) {
        if (!within(minutes, 1, 1000) || sums[MINUTES] + minutes > MOST_MINUTES) {
            return NONE;
        }
        int ran = 0;
        while (ran < minutes && greatestWarmth() <= limitWarmth) {
            passMinute();
            ran++;
        }
        return ran;
    }

    public long left(int layer, int part) {
        Layer at = layerAt(layer);
        return at == null || !isPart(part) ? NONE : at.stock[part];
    }

    public long wet(int layer) {
        Layer at = layerAt(layer);
        return at == null ? NONE : at.stock[WATER];
    }

    public long warmth(int layer) {
        Layer at = layerAt(layer);
        return at == null ? NONE : at.warmthNow();
    }

    public int air() {
        return blower.setting;
    }

    public int turn() {
        for (int stock = 0; stock < STOCKS; stock++) {
            shareOut(stock);
        }
        turns++;
        return turns;
    }

    public long gone(int what) {
        return within(what, 0, SUMS - 1) ? sums[what] : NONE;
    }

    public long balance(int what) {
        switch (what) {
            case 0:
                return putInLessThere(0) + putInLessThere(1) + putInLessThere(2) - sums[GAS];
            case 1:
                return putInLessThere(WATER) + sums[RAINED] + sums[WATER_MADE]
                        - sums[WATER_DRIVEN] - sums[WATER_SEEPED];
            case 2:
                return putInLessThere(HEAT) + sums[HEAT_MADE] - sums[HEAT_LOST] - sums[HEAT_DRIVEN];
            default:
                return NONE;
        }
    }

    public long batch() {
        long grams = 0;
        for (Layer layer : layers) {
            grams += layer.mass();
            for (int stock = 0; stock < STOCKS; stock++) {
                takenAway[stock] += layer.stock[stock];
                layer.stock[stock] = 0;
            }
        }
        return grams;
    }

    private static boolean within(int number, int least, int most) {
        return number >= least && number <= most;
    }

    private static boolean isPart(int part) {
        return within(part, 0, PARTS - 1);
    }

    // Whole millions and the rest apart: heat times millionths would not fit a long.
    private static long millionthsOf(long units, long millionths) {
        return units / MILLION * millionths + units % MILLION * millionths / MILLION;
    }

    private static long cut(long number, long least, long most) {
        return Math.max(least, Math.min(most, number));
    }

    /** The layer of that number, null when there is none. */
    private Layer layerAt(int layer) {
        return within(layer, 0, layers.length - 1) ? layers[layer] : null;
    }

    private boolean bring(Layer at, int stock, int units, long most) {
        if (at == null || at.stock[stock] + units > most) {
            return false;
        }
        at.stock[stock] += units;
        putIn[stock] += units;
        return true;
    }

    private long greatestWarmth() {
        long greatest = 0;
        for (Layer layer : layers) {
            greatest = Math.max(greatest, layer.warmthNow());
        }
        return greatest;
    }

    private void passMinute() {
        pour(rainGrams, 0);
        sums[RAINED] += rainGrams;
        for (int i = 0; i < layers.length; i++) {
            Layer layer = layers[i];
            breakParts(layer);
            loseHeat(layer);
            driveOff(layer);
            pour(layer.takeSurplus(), i + 1);
        }
        blower.adjust(greatestWarmth());
        sums[MINUTES]++;
    }

    /** Water comes into a layer from above; below the last one it seeps. */
    private void pour(long grams, int layer) {
        Layer into = layerAt(layer);
        if (into == null) {
            sums[WATER_SEEPED] += grams;
        } else {
            into.stock[WATER] += grams;
        }
    }

    private void breakParts(Layer layer) {
        if (layer.stock[WATER] < layer.dry) {
            return;
        }
        // Taken once: what one part yields must not change the warmth for the next part.
        long warmth = layer.warmthNow();
        for (int part = 0; part < PARTS; part++) {
            breakPart(layer, part, warmth);
        }
    }

    private void breakPart(Layer layer, int part, long warmth) {
        Kind kind = kinds[part];
        long grams = millionthsOf(layer.stock[part], kind.millionthsAt(warmth));
        long heat = grams * kind.heatYield;
        long water = grams * kind.waterYield / 1000;
        layer.stock[part] -= grams;
        layer.stock[HEAT] += heat;
        layer.stock[WATER] += water;
        sums[GAS] += grams;
        sums[HEAT_MADE] += heat;
        sums[WATER_MADE] += water;
    }

    private void loseHeat(Layer layer) {
        long heat = millionthsOf(layer.stock[HEAT], lossMillionths);
        layer.stock[HEAT] -= heat;
        sums[HEAT_LOST] += heat;
    }

    private void driveOff(Layer layer) {
        long water = millionthsOf(layer.stock[WATER], blower.setting);
        long heat = Math.min(water * HEAT_OF_DRIVEN_GRAM, layer.stock[HEAT]);
        layer.stock[WATER] -= water;
        layer.stock[HEAT] -= heat;
        sums[WATER_DRIVEN] += water;
        sums[HEAT_DRIVEN] += heat;
    }

    private long inAllLayers(int stock) {
        long units = 0;
        for (Layer layer : layers) {
            units += layer.stock[stock];
        }
        return units;
    }

    private void shareOut(int stock) {
        int count = layers.length;
        if (count == 0) {
            return;
        }
        long units = inAllLayers(stock);
        long each = units / count;
        long over = units % count;
        for (int i = 0; i < count; i++) {
            layers[i].stock[stock] = i < over ? each + 1 : each;
        }
    }

    // A batch that was taken away went too, so that the balance goes on over batches.
    private long putInLessThere(int stock) {
        return putIn[stock] - takenAway[stock] - inAllLayers(stock);
    }

    /** What is in one layer, and what was told of it. */
    private static final class Layer {
        final long[] stock = new long[STOCKS];
        int dry = 0;
        int holds = BILLION;

        long mass() {
            long grams = stock[WATER];
            for (int part = 0; part < PARTS; part++) {
                grams += stock[part];
            }
            return grams;
        }

        long warmthNow() {
            long mass = mass();
            return mass > 0 ? stock[HEAT] / mass : 0;
        }

        long takeSurplus() {
            long grams = Math.max(0, stock[WATER] - holds);
            stock[WATER] -= grams;
            return grams;
        }
    }

    /** How one part breaks, and what it yields. */
    private static final class Kind {
        final int[] fromWarmth = new int[MOST_ROWS];
        final int[] millionths = new int[MOST_ROWS];
        int rows = 0;
        int heatYield = 0;
        int waterYield = 0;

        boolean addRow(int warmth, int millionthsFromThere) {
            if (rows >= MOST_ROWS || rows > 0 && warmth <= fromWarmth[rows - 1]) {
                return false;
            }
            fromWarmth[rows] = warmth;
            millionths[rows] = millionthsFromThere;
            rows++;
            return true;
        }

        int millionthsAt(long warmth) {
            int found = 0;
            for (int row = 0; row < rows && row < MOST_ROWS; row++) {
                if (warmth >= fromWarmth[row]) {
                    found = millionths[row];
                }
            }
            return found;
        }
    }

    /** The fan and what controls it. */
    private static final class Fan {
        boolean told = false;
        int target = 0;
        int p = 0;
        int i = 0;
        long sum = 0;
        int setting = 0;

        // The setting stays: it is set anew only behind the layers of a minute.
        void tell(int newTarget, int newP, int newI) {
            told = true;
            target = newTarget;
            p = newP;
            i = newI;
            sum = 0;
        }

        void adjust(long greatestWarmth) {
            if (!told) {
                return;
            }
            long e = greatestWarmth - target;
            sum = cut(sum + e, -BILLION, BILLION);
            setting = (int) cut(Math.floorDiv(p * e + i * sum, 1000L), 0, 1000);
        }
    }
}
