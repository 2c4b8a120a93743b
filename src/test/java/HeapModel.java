import java.math.BigInteger;
import java.util.ArrayList;
import java.util.Arrays;
import java.util.List;
import java.util.TreeMap;

/**
 * The document told a second time, in numbers without bounds and step by step in its own
 * order, to be held against the class.
 */
final class HeapModel {
    private static final BigInteger MILLION = BigInteger.valueOf(1000000);
    private static final BigInteger THOUSAND = BigInteger.valueOf(1000);
    private static final BigInteger BILLION = BigInteger.valueOf(1000000000);

    private static final class Layer {
        final List<BigInteger> parts = new ArrayList<>(
                List.of(BigInteger.ZERO, BigInteger.ZERO, BigInteger.ZERO));
        BigInteger water = BigInteger.ZERO;
        BigInteger heat = BigInteger.ZERO;
        BigInteger dry = BigInteger.ZERO;
        BigInteger holds = BILLION;

        BigInteger mass() {
            return parts.get(0).add(parts.get(1)).add(parts.get(2)).add(water);
        }

        BigInteger warmth() {
            return mass().signum() == 0 ? BigInteger.ZERO : heat.divide(mass());
        }
    }

    private final List<Layer> layers = new ArrayList<>();
    private final List<TreeMap<BigInteger, BigInteger>> rows = new ArrayList<>();
    private final long[] heatYield = new long[3];
    private final long[] waterYield = new long[3];
    private final BigInteger[] gone = new BigInteger[9];
    private BigInteger rain = BigInteger.ZERO;
    private BigInteger loss = BigInteger.ZERO;
    private BigInteger limit = BILLION;
    private int[] control = null;
    private BigInteger sum = BigInteger.ZERO;
    private int air = 0;
    private int turns = 0;

    HeapModel(int count) {
        for (int i = 0; i < (count >= 1 && count <= 6 ? count : 1); i++) {
            layers.add(new Layer());
        }
        for (int i = 0; i < 3; i++) {
            rows.add(new TreeMap<>());
        }
        Arrays.fill(gone, BigInteger.ZERO);
    }

    private static BigInteger big(long number) {
        return BigInteger.valueOf(number);
    }

    private static boolean out(int number, int least, int most) {
        return number < least || number > most;
    }

    private boolean noLayer(int layer) {
        return layer < 0 || layer >= layers.size();
    }

    private static BigInteger millionths(BigInteger of, BigInteger x) {
        return of.multiply(x).divide(MILLION);
    }

    boolean part(int layer, int part, int grams) {
        if (noLayer(layer) || out(part, 0, 2) || out(grams, 0, 1000000)) {
            return false;
        }
        BigInteger then = layers.get(layer).parts.get(part).add(big(grams));
        if (then.compareTo(BILLION) > 0) {
            return false;
        }
        layers.get(layer).parts.set(part, then);
        return true;
    }

    boolean water(int layer, int grams) {
        if (noLayer(layer) || out(grams, 0, 1000000)) {
            return false;
        }
        BigInteger then = layers.get(layer).water.add(big(grams));
        if (then.compareTo(BILLION) > 0) {
            return false;
        }
        layers.get(layer).water = then;
        return true;
    }

    boolean heat(int layer, int units) {
        if (noLayer(layer) || out(units, 0, 1000000000)) {
            return false;
        }
        BigInteger then = layers.get(layer).heat.add(big(units));
        if (then.compareTo(MILLION.multiply(BILLION)) > 0) {
            return false;
        }
        layers.get(layer).heat = then;
        return true;
    }

    boolean rate(int part, int warmth, int millionths) {
        if (out(part, 0, 2) || out(warmth, 0, 1000000) || out(millionths, 0, 100000)) {
            return false;
        }
        TreeMap<BigInteger, BigInteger> of = rows.get(part);
        if (of.size() == 4 || of.ceilingKey(big(warmth)) != null) {
            return false;
        }
        of.put(big(warmth), big(millionths));
        return true;
    }

    boolean yields(int part, int heat, int water) {
        if (out(part, 0, 2) || out(heat, 0, 100000) || out(water, 0, 1000)) {
            return false;
        }
        heatYield[part] = heat;
        waterYield[part] = water;
        return true;
    }

    boolean bounds(int layer, int dry, int holds) {
        if (noLayer(layer) || out(dry, 0, 1000000000) || out(holds, 0, 1000000000)) {
            return false;
        }
        layers.get(layer).dry = big(dry);
        layers.get(layer).holds = big(holds);
        return true;
    }

    boolean rain(int grams) {
        if (out(grams, 0, 100000)) {
            return false;
        }
        rain = big(grams);
        return true;
    }

    boolean loss(int millionths) {
        if (out(millionths, 0, 1000000)) {
            return false;
        }
        loss = big(millionths);
        return true;
    }

    boolean fan(int target, int p, int i) {
        if (out(target, 0, 1000000) || out(p, -1000, 1000) || out(i, -1000, 1000)) {
            return false;
        }
        control = new int[] {target, p, i};
        sum = BigInteger.ZERO;
        return true;
    }

    boolean limit(int warmth) {
        if (out(warmth, 0, 1000000000)) {
            return false;
        }
        limit = big(warmth);
        return true;
    }

    private BigInteger greatest() {
        return layers.stream().map(Layer::warmth).max(BigInteger::compareTo).orElseThrow();
    }

    int run(int minutes) {
        if (out(minutes, 1, 1000) || gone[8].intValue() + minutes > 20000) {
            return -1;
        }
        for (int ran = 0; ran < minutes; ran++) {
            if (greatest().compareTo(limit) > 0) {
                return ran;
            }
            minute();
        }
        return minutes;
    }

    private void count(int what, BigInteger number) {
        gone[what] = gone[what].add(number);
    }

    private void minute() {
        BigInteger fromAbove = rain;
        count(3, rain);
        for (Layer layer : layers) {
            layer.water = layer.water.add(fromAbove);
            if (layer.water.compareTo(layer.dry) >= 0) {
                breaks(layer);
            }
            loses(layer);
            fromAbove = layer.water.subtract(layer.holds).max(BigInteger.ZERO);
            layer.water = layer.water.subtract(fromAbove);
        }
        count(2, fromAbove);
        setFan();
        count(8, BigInteger.ONE);
    }

    private void breaks(Layer layer) {
        BigInteger warmth = layer.warmth();
        for (int part = 0; part < 3; part++) {
            var row = rows.get(part).floorEntry(warmth);
            if (row == null) {
                continue;
            }
            BigInteger grams = millionths(layer.parts.get(part), row.getValue());
            BigInteger heat = grams.multiply(big(heatYield[part]));
            BigInteger water = grams.multiply(big(waterYield[part])).divide(THOUSAND);
            layer.parts.set(part, layer.parts.get(part).subtract(grams));
            layer.heat = layer.heat.add(heat);
            layer.water = layer.water.add(water);
            count(0, grams);
            count(4, heat);
            count(7, water);
        }
    }

    private void loses(Layer layer) {
        BigInteger lost = millionths(layer.heat, loss);
        layer.heat = layer.heat.subtract(lost);
        count(5, lost);
        BigInteger driven = millionths(layer.water, big(air));
        layer.water = layer.water.subtract(driven);
        count(1, driven);
        BigInteger heat = driven.multiply(big(600)).min(layer.heat);
        layer.heat = layer.heat.subtract(heat);
        count(6, heat);
    }

    private void setFan() {
        if (control == null) {
            return;
        }
        BigInteger e = greatest().subtract(big(control[0]));
        sum = sum.add(e).max(BILLION.negate()).min(BILLION);
        BigInteger both = big(control[1]).multiply(e).add(big(control[2]).multiply(sum));
        air = both.divide(THOUSAND).max(BigInteger.ZERO).min(THOUSAND).intValue();
    }

    long left(int layer, int part) {
        return noLayer(layer) || out(part, 0, 2)
                ? -1 : layers.get(layer).parts.get(part).longValueExact();
    }

    long wet(int layer) {
        return noLayer(layer) ? -1 : layers.get(layer).water.longValueExact();
    }

    long warmth(int layer) {
        return noLayer(layer) ? -1 : layers.get(layer).warmth().longValueExact();
    }

    int air() {
        return air;
    }

    /** Each layer from above gets its part of what is left, up: the same as the document tells. */
    private List<BigInteger> shares(BigInteger units) {
        List<BigInteger> shares = new ArrayList<>();
        BigInteger rest = units;
        for (int open = layers.size(); open > 0; open--) {
            BigInteger share = rest.add(big(open - 1)).divide(big(open));
            shares.add(share);
            rest = rest.subtract(share);
        }
        return shares;
    }

    int turn() {
        for (int part = 0; part < 3; part++) {
            int of = part;
            List<BigInteger> shares = shares(layers.stream().map(l -> l.parts.get(of))
                    .reduce(BigInteger.ZERO, BigInteger::add));
            for (int i = 0; i < layers.size(); i++) {
                layers.get(i).parts.set(part, shares.get(i));
            }
        }
        List<BigInteger> water = shares(
                layers.stream().map(l -> l.water).reduce(BigInteger.ZERO, BigInteger::add));
        List<BigInteger> heat = shares(
                layers.stream().map(l -> l.heat).reduce(BigInteger.ZERO, BigInteger::add));
        for (int i = 0; i < layers.size(); i++) {
            layers.get(i).water = water.get(i);
            layers.get(i).heat = heat.get(i);
        }
        return ++turns;
    }

    long gone(int what) {
        return out(what, 0, 8) ? -1 : gone[what].longValueExact();
    }

    /** Nothing comes from nowhere and nothing is lost untold: the balance is 0 always. */
    long balance(int what) {
        return out(what, 0, 2) ? -1 : 0;
    }

    long batch() {
        BigInteger grams = BigInteger.ZERO;
        for (Layer layer : layers) {
            grams = grams.add(layer.mass());
            for (int part = 0; part < 3; part++) {
                layer.parts.set(part, BigInteger.ZERO);
            }
            layer.water = BigInteger.ZERO;
            layer.heat = BigInteger.ZERO;
        }
        return grams.longValueExact();
    }
}
