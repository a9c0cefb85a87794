import java.util.ArrayList;
import java.util.List;
import java.util.Random;

/** Promises 4 and 16, packing as well as possible: against all ways to cut small lists, against the model for large. */
public final class PackingTest {
    private static final int[] GAPS = {0, 0, 0, 1, 1, 2, 3, 5, 7, 13, 15, 100, 255, 4000, 32767, 60000};
    private static final Due DUE = new Due("PackingTest");

    public static void main(String[] args) {
        Random random = new Random(8);
        for (int round = 0; round < 3000; round++) {
            smallList(random, 1 + random.nextInt(9));
        }
        for (int round = 0; round < 400; round++) {
            largeList(random);
        }
        DUE.finish();
    }

    private static List<Integer> someNumbers(Random random, int size) {
        List<Integer> numbers = new ArrayList<>();
        int kinds = 1 + random.nextInt(GAPS.length);
        int calm = 1 + random.nextInt(30);
        int next = random.nextInt(100);
        int gap = 0;
        while (numbers.size() < size && next <= 999999) {
            numbers.add(next);
            if (random.nextInt(calm) == 0) {
                gap = GAPS[random.nextInt(kinds)];
            }
            next += gap + 1;
        }
        return numbers;
    }

    private static void smallList(Random random, int size) {
        List<Integer> numbers = someNumbers(random, size);
        List<Integer> best = null;
        int bestCost = 0;
        for (int cuts = 0; cuts < 1 << numbers.size() - 1; cuts++) {
            List<Integer> lengths = new ArrayList<>();
            int cost = costOfCuts(numbers, cuts, lengths);
            if (best == null || NaiveLists.compare(cost, lengths, bestCost, best) < 0) {
                best = lengths;
                bestCost = cost;
            }
        }
        PackedLists x = new PackedLists();
        numbers.forEach(number -> x.add(0, number));
        DUE.is("costBy() of " + numbers, x.costBy(0, 0), bestCost);
        DUE.is("pack() of " + numbers, x.pack(0, 0), bestCost);
        DUE.is("blocks of " + numbers, x.list(0, 1), best.size());
        for (int block = 0; block < best.size(); block++) {
            DUE.is("length of block " + block + " of " + numbers, x.block(0, block, 1), best.get(block));
        }
    }

    private static int costOfCuts(List<Integer> numbers, int cuts, List<Integer> lengths) {
        List<List<Integer>> blocks = new ArrayList<>();
        int start = 0;
        for (int index = 1; index <= numbers.size(); index++) {
            if (index == numbers.size() || (cuts >> index - 1 & 1) == 1) {
                blocks.add(numbers.subList(start, index));
                lengths.add(index - start);
                start = index;
            }
        }
        return NaiveLists.costOf(blocks);
    }

    private static void largeList(Random random) {
        List<Integer> numbers = someNumbers(random, 200 - random.nextInt(80));
        PackedLists x = new PackedLists();
        NaiveLists naive = new NaiveLists();
        for (int number : numbers) {
            x.add(0, number);
            naive.add(0, number);
        }
        DUE.is("costBy() of many numbers", x.costBy(0, 0), naive.costBy(0, 0));
        DUE.is("pack() of many numbers", x.pack(0, 0), naive.pack(0, 0));
        DUE.is("digest() of many numbers", x.digest(), naive.digest());
    }
}
