import java.math.BigInteger;
import java.util.Random;

/** Promises 11 to 15: lives, costs, the best time to change, breaks. */
public final class LivesTest {
    private static final int MIN = Integer.MIN_VALUE;
    private static final int MAX = Integer.MAX_VALUE;

    private static final Check check = new Check();

    public static void main(String[] args) {
        livesAreCounted();
        lifeRefuses();
        costsAreOfSorts();
        costRefuses();
        changeFindsTheBest();
        changeOfGreatNumbers();
        changeIsAsTryingAllTells();
        changedTellsBothParts();
        changedRefuses();
        breaksAreAsTheFormulaSays();
        breaksRefuses();
        check.end();
    }

    private static void livesAreCounted() {
        EdgeWear x = new EdgeWear(0);
        for (int i = 1; i <= 40; i++) {
            int want = i;
            check.due("life " + i, want, () -> x.life(3, 25 * want));
        }
        check.due("a 41st life", Check.STATE, () -> x.life(3, 1));
        check.due("a 41st life, wrong uses", Check.ARGUMENT, () -> x.life(3, 1001));
        check.due("the other sort has room", 1, () -> x.life(2, 1000));
        check.due("the greatest counts", 1000, () -> x.change(2));
        check.due("all uses", 20500L, () -> x.changed(3, 1000, 1));
    }

    private static void lifeRefuses() {
        EdgeWear x = new EdgeWear(0);
        for (int bad : new int[] {-1, 4, MIN, MAX}) {
            check.due("life of sort " + bad, Check.INDEX, () -> x.life(bad, 0));
        }
        for (int bad : new int[] {0, -1, 1001, MIN, MAX}) {
            check.due("life of uses " + bad, Check.ARGUMENT, () -> x.life(0, bad));
        }
        check.due("none came of it", 1, () -> x.life(0, 1));
    }

    private static void costsAreOfSorts() {
        EdgeWear x = new EdgeWear(0);
        x.life(0, 3);
        x.life(0, 5);
        x.life(1, 3);
        check.due("costs at first", 2L, () -> x.changed(0, 5, 0));
        check.done("cost", () -> x.cost(0, 7, 1000000));
        check.due("one fails", 1000007L, () -> x.changed(0, 4, 0));
        check.due("none fails", 14L, () -> x.changed(0, 3, 0));
        check.due("the other sort's stay", 1L, () -> x.changed(1, 3, 0));
        check.done("costs of 0", () -> x.cost(0, 0, 0));
        check.due("costs 0", 0L, () -> x.changed(0, 4, 0));
        check.done("greatest change", () -> x.cost(0, 1000000, 0));
        check.due("one changed", 1000000L, () -> x.changed(0, 4, 0));
    }

    private static void costRefuses() {
        EdgeWear x = new EdgeWear(0);
        x.life(0, 3);
        x.life(0, 5);
        x.cost(0, 2, 9);
        for (int bad : new int[] {-1, 4, MIN, MAX}) {
            check.refused("cost of sort " + bad, Check.INDEX, () -> x.cost(bad, -1, -1));
        }
        for (int bad : new int[] {-1, 1000001, MIN, MAX}) {
            check.refused("change " + bad, Check.ARGUMENT, () -> x.cost(0, bad, 1));
            check.refused("fail " + bad, Check.ARGUMENT, () -> x.cost(0, 1, bad));
        }
        check.due("the costs stand", 11L, () -> x.changed(0, 4, 0));
    }

    private static void changeFindsTheBest() {
        EdgeWear x = new EdgeWear(0);
        x.life(0, 10);
        x.life(0, 4);
        check.due("a fail costs no more", 10, () -> x.change(0));
        x.cost(0, 1, 1000);
        check.due("no fail", 4, () -> x.change(0));
        x.cost(0, 0, 0);
        check.due("no costs: the greatest", 10, () -> x.change(0));
        x.cost(0, 0, 1);
        check.due("changing is free", 4, () -> x.change(0));
        x.cost(0, 1, 0);
        check.due("failing is free", 10, () -> x.change(0));
        // Lives 2 and 4, change 2, fail 4: 4 / 4 at n = 2, and 6 / 6 at n = 4.
        x.life(1, 2);
        x.life(1, 4);
        x.cost(1, 2, 4);
        check.due("of two the greatest", 4, () -> x.change(1));
        x.cost(1, 200000, 400001);
        check.due("a little dearer", 2, () -> x.change(1));
        for (int bad : new int[] {-1, 4, MIN, MAX}) {
            check.due("change of sort " + bad, Check.INDEX, () -> x.change(bad));
        }
        check.due("change without lives", Check.STATE, () -> x.change(2));
    }

    private static void changeOfGreatNumbers() {
        EdgeWear x = new EdgeWear(0);
        for (int i = 0; i < 39; i++) {
            x.life(0, 1000);
        }
        x.life(0, 999);
        // 999 * 40 uses at 40 changes, against 39999 uses at 39 and a fail.
        x.cost(0, 999000, 1000000 - 1);
        check.due("just below the same", 1000, () -> x.change(0));
        x.cost(0, 1000000, 1000000);
        check.due("products above an int", 1000, () -> x.change(0));
        check.due("all costs", 40000000L, () -> x.changed(0, 1000, 0));
        check.due("all uses", 39999L, () -> x.changed(0, 1000, 1));
    }

    private static void changeIsAsTryingAllTells() {
        Random random = new Random(11);
        for (int round = 0; round < 400; round++) {
            EdgeWear x = new EdgeWear(round);
            int span = round % 2 == 0 ? 8 : 1000;
            int price = round % 3 == 0 ? 4 : 1000001;
            int[] lives = new int[1 + random.nextInt(40)];
            for (int i = 0; i < lives.length; i++) {
                lives[i] = 1 + random.nextInt(span);
                x.life(2, lives[i]);
            }
            int change = random.nextInt(price);
            int fail = random.nextInt(price);
            x.cost(2, change, fail);
            check.due("change of round " + round, bestByTryingAll(lives, change, fail),
                    () -> x.change(2));
        }
    }

    private static int bestByTryingAll(int[] lives, int change, int fail) {
        int greatest = 0;
        for (int life : lives) {
            greatest = Math.max(greatest, life);
        }
        int best = 0;
        BigInteger bestCost = null;
        BigInteger bestUses = null;
        for (int n = 1; n <= greatest; n++) {
            BigInteger cost = BigInteger.ZERO;
            BigInteger uses = BigInteger.ZERO;
            for (int life : lives) {
                cost = cost.add(BigInteger.valueOf(life < n ? fail : change));
                uses = uses.add(BigInteger.valueOf(Math.min(life, n)));
            }
            if (best == 0 || cost.multiply(bestUses).compareTo(bestCost.multiply(uses)) <= 0) {
                best = n;
                bestCost = cost;
                bestUses = uses;
            }
        }
        return best;
    }

    private static void changedTellsBothParts() {
        EdgeWear x = new EdgeWear(0);
        x.life(0, 10);
        x.life(0, 4);
        x.life(0, 10);
        x.cost(0, 3, 50);
        long[][] want = {{1, 9, 3}, {4, 9, 12}, {5, 56, 14}, {9, 56, 22}, {10, 56, 24}};
        for (long[] row : want) {
            int n = (int) row[0];
            check.due("costs at " + n, row[1], () -> x.changed(0, n, 0));
            check.due("uses at " + n, row[2], () -> x.changed(0, n, 1));
        }
    }

    private static void changedRefuses() {
        EdgeWear x = new EdgeWear(0);
        x.life(0, 10);
        x.life(0, 4);
        for (int bad : new int[] {-1, 4, MIN, MAX}) {
            check.due("changed of sort " + bad, Check.INDEX, () -> x.changed(bad, 0, 0));
        }
        for (int bad : new int[] {-1, 2, MIN, MAX}) {
            check.due("changed of part " + bad, Check.INDEX, () -> x.changed(0, 0, bad));
            check.due("part " + bad + " without lives", Check.INDEX, () -> x.changed(1, 1, bad));
        }
        for (int bad : new int[] {0, -1, MIN}) {
            check.due("changed at " + bad, Check.ARGUMENT, () -> x.changed(0, bad, 0));
            check.due("changed at " + bad + " without lives", Check.ARGUMENT,
                    () -> x.changed(1, bad, 1));
        }
        check.due("above the greatest", Check.STATE, () -> x.changed(0, 11, 0));
        check.due("above the greatest, uses", Check.STATE, () -> x.changed(0, MAX, 1));
        check.due("without lives", Check.STATE, () -> x.changed(1, 1, 0));
    }

    private static void breaksAreAsTheFormulaSays() {
        int[] seeds = {0, 1, -5, 42, MAX, MIN};
        int[] ks = {0, 1, 2, 3, 1000, 536870911, 536870912, 1073741824, MAX};
        for (int seed : seeds) {
            EdgeWear x = new EdgeWear(seed);
            for (int sort = 0; sort < 4; sort++) {
                for (int i = 0; i < 3 + 9 * sort; i++) {
                    x.life(sort, 1000 - 7 * i);
                }
                int s = sort;
                for (int k : ks) {
                    int want = 1000 - 7 * place(seed, sort, k, 3 + 9 * sort);
                    check.due("seed " + seed + ": breaks(" + sort + ", " + k + ")", want,
                            () -> x.breaks(s, k));
                }
            }
        }
        EdgeWear x = new EdgeWear(9);
        x.life(1, 5);
        check.due("one life alone", 5, () -> x.breaks(1, 3));
    }

    /** The document's formula in numbers without bounds, wrapped by hand. */
    private static int place(int seed, int sort, int k, int count) {
        BigInteger z = BigInteger.valueOf(4).multiply(BigInteger.valueOf(k))
                .add(BigInteger.valueOf(sort + 1)).multiply(new BigInteger("9E3779B97F4A7C15", 16))
                .add(BigInteger.valueOf(seed));
        z = wrapped(z);
        z = wrapped(z.xor(z.shiftRight(30)).multiply(new BigInteger("BF58476D1CE4E5B9", 16)));
        z = wrapped(z.xor(z.shiftRight(27)).multiply(new BigInteger("94D049BB133111EB", 16)));
        z = z.xor(z.shiftRight(31));
        return z.shiftRight(1).mod(BigInteger.valueOf(count)).intValue();
    }

    private static BigInteger wrapped(BigInteger z) {
        return z.mod(BigInteger.ONE.shiftLeft(64));
    }

    private static void breaksRefuses() {
        EdgeWear x = new EdgeWear(0);
        for (int bad : new int[] {-1, 4, MIN, MAX}) {
            check.due("breaks of sort " + bad, Check.INDEX, () -> x.breaks(bad, -1));
        }
        check.due("k below 0", Check.ARGUMENT, () -> x.breaks(0, -1));
        check.due("k far below 0", Check.ARGUMENT, () -> x.breaks(0, MIN));
        check.due("without lives", Check.STATE, () -> x.breaks(0, 0));
    }
}
