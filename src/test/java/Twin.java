import java.util.ArrayList;
import java.util.Arrays;
import java.util.List;
import java.util.function.Consumer;
import java.util.function.Supplier;
import java.util.function.ToLongFunction;

/**
 * Two heaps that were made by the same calls: one of them is refused a call, and from then on
 * both must answer alike, so nothing at all was changed by it.
 */
final class Twin {
    private Twin() {
    }

    /**
     * A heap in which everything that can be told is told and shows: all parts break in all
     * layers, each layer is about as wet as it holds, the fan blows, its sum is not 0.
     * Part 0 has two rows, part 1 has four, part 2 has one.
     */
    static HeapSteps rich() {
        HeapSteps x = new HeapSteps(3);
        for (int layer = 0; layer < 3; layer++) {
            for (int part = 0; part < 3; part++) {
                x.part(layer, part, 100000 + 1000 * layer + 10 * part);
            }
            x.water(layer, 50000 + layer);
            x.heat(layer, 5000000 + 1000000 * layer);
            x.bounds(layer, 40000 + layer, 50300 + layer);
        }
        x.rate(0, 3, 2000);
        x.rate(0, 8, 5000);
        x.rate(1, 0, 1000);
        x.rate(1, 4, 3000);
        x.rate(1, 6, 4000);
        x.rate(1, 9, 7000);
        x.rate(2, 5, 1500);
        x.yields(0, 200, 300);
        x.yields(1, 150, 500);
        x.yields(2, 20, 40);
        x.rain(700);
        x.loss(900);
        x.fan(12, 1000, 700);
        x.limit(400000);
        x.turn();
        x.run(5);
        return x;
    }

    /** All that can be asked, in 52 calls at most. */
    static void ask(HeapSteps x, List<Long> answers) {
        for (int layer = 0; layer < 6; layer++) {
            for (int part = 0; part < 3; part++) {
                answers.add(x.left(layer, part));
            }
            answers.add(x.wet(layer));
            answers.add(x.warmth(layer));
        }
        for (int what = 0; what < 9; what++) {
            answers.add(x.gone(what));
        }
        for (int what = 0; what < 3; what++) {
            answers.add(x.balance(what));
        }
        answers.add((long) x.air());
    }

    private static void run(HeapSteps x, int minutes, List<Long> answers) {
        answers.add((long) x.run(minutes));
        ask(x, answers);
    }

    private static long bit(boolean answer) {
        return answer ? 1 : 0;
    }

    /** Rows that were told in secret would leave less room for these, or other warmths. */
    private static void tellRows(HeapSteps x, List<Long> answers) {
        for (int part = 0; part < 3; part++) {
            for (int warmth = 6; warmth < 12; warmth++) {
                answers.add(bit(x.rate(part, warmth, 100)));
            }
        }
    }

    /** Runs a new batch from a warmth at the rich heap's limit, and from one above it. */
    private static void tryLimit(HeapSteps x, List<Long> answers) {
        answers.add(x.batch());
        for (int units : new int[] {400000, 400001}) {
            answers.add(bit(x.water(0, 1)));
            answers.add(bit(x.heat(0, units)));
            run(x, 1, answers);
            answers.add(x.batch());
        }
    }

    /** What a heap answers now and what it does further on, in fewer than 400 calls. */
    static long[] answers(HeapSteps x) {
        List<Long> answers = new ArrayList<>();
        ask(x, answers);
        run(x, 1, answers);
        run(x, 3, answers);
        answers.add((long) x.turn());
        run(x, 1, answers);
        tryLimit(x, answers);
        tellRows(x, answers);
        return answers.stream().mapToLong(Long::longValue).toArray();
    }

    /** A call on a heap made so is refused with that answer, and changes nothing. */
    static void refused(Due due, String name, Supplier<HeapSteps> made,
            ToLongFunction<HeapSteps> call, long want) {
        HeapSteps asked = made.get();
        due.is(name, call.applyAsLong(asked), want);
        alike(due, name + " changes nothing", answers(asked), answers(made.get()));
    }

    /** The other way round: a call that is not refused can be seen in the answers. */
    static void seen(Due due, String name, Consumer<HeapSteps> call) {
        HeapSteps told = rich();
        call.accept(told);
        due.no(name + " is not seen", Arrays.equals(answers(told), answers(rich())));
    }

    private static void alike(Due due, String what, long[] got, long[] want) {
        due.is(what + ": answers", got.length, want.length);
        for (int i = 0; i < want.length && i < got.length; i++) {
            if (got[i] != want[i]) {
                due.is(what + ": answer " + i, got[i], want[i]);
                return;
            }
        }
    }
}
