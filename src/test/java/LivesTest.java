import java.math.BigInteger;
import java.util.Random;

/** Promises 11 to 15: lives, costs, the best time to change, breaks. RefusedCallsTest has what they refuse. */
public final class LivesTest {
    private static final int MIN = Integer.MIN_VALUE;
    private static final int MAX = Integer.MAX_VALUE;

    private static final Check check = new Check();

    public static void main(String[] args) {
        fortyLives();
        leastAndGreatestLife();
        costsAtFirst();
        leastAndGreatestCost();
        costsAreOfSorts();
        failsBelowN();
        usesAreTheLesser();
        changedUpToTheGreatest();
        changedOfGreatNumbers();
        leastCostByUses();
        comparedExactly();
        greatestOfSeveral();
        changeIsAsTryingAllTells();
        changeNeedsLives();
        breaksAreAsTheFormulaSays();
        breaksAreWrapped();
        livesAsTheyWereTold();
        leastAndGreatestK();
        breaksNeedLives();
        check.end();
    }

    private static EdgeWear shop(int... lives) {
        EdgeWear x = new EdgeWear(0);
        for (int life : lives) {
            x.life(0, life);
        }
        return x;
    }

    private static void fortyLives() {
        check.sentence("LIVES of a SORT, 40 at most");
        EdgeWear x = new EdgeWear(0);
        for (int sort = 0; sort < 4; sort++) {
            int s = sort;
            for (int i = 1; i <= 40; i++) {
                int want = i;
                check.due("life " + i + " of sort " + s, want, () -> x.life(s, 25 * want));
            }
            check.due("a 41st life of sort " + s, Check.STATE, () -> x.life(s, 1000));
            check.due("lives of sort " + s, 40L, () -> x.changed(s, 1, 1));
            check.due("all uses of sort " + s, 20500L, () -> x.changed(s, 1000, 1));
        }
    }

    private static void leastAndGreatestLife() {
        check.sentence("numbers of uses 1 .. 1000");
        EdgeWear x = new EdgeWear(0);
        check.due("life of 1", 1, () -> x.life(0, 1));
        check.due("the best of it", 1, () -> x.change(0));
        check.due("it breaks", 1, () -> x.breaks(0, 0));
        check.due("life of 1000", 2, () -> x.life(0, 1000));
        check.due("life of 0", Check.ARGUMENT, () -> x.life(0, 0));
        check.due("life of 1001", Check.ARGUMENT, () -> x.life(0, 1001));
        check.due("uses", 1001L, () -> x.changed(0, 1000, 1));
        check.due("a third one", 3, () -> x.life(0, 1));
    }

    private static void costsAtFirst() {
        check.sentence("for each other one CHANGE (1 each at first)");
        EdgeWear x = new EdgeWear(0);
        for (int sort = 0; sort < 4; sort++) {
            int s = sort;
            x.life(s, 3);
            x.life(s, 5);
            check.due("change of sort " + s, 2L, () -> x.changed(s, 3, 0));
            check.due("change and fail of sort " + s, 2L, () -> x.changed(s, 4, 0));
            x.cost(s, 10, 100);
            check.due("told: change of sort " + s, 20L, () -> x.changed(s, 3, 0));
            check.due("told: change and fail of sort " + s, 110L, () -> x.changed(s, 4, 0));
        }
    }

    private static void leastAndGreatestCost() {
        check.sentence("12: one is not 0 .. 1000000");
        EdgeWear x = shop(3, 5);
        check.done("both 0", () -> x.cost(0, 0, 0));
        check.due("costs 0", 0L, () -> x.changed(0, 4, 0));
        check.done("greatest change", () -> x.cost(0, 1000000, 0));
        check.due("one changed", 1000000L, () -> x.changed(0, 4, 0));
        check.done("greatest fail", () -> x.cost(0, 0, 1000000));
        check.due("one fails", 1000000L, () -> x.changed(0, 4, 0));
        check.done("both greatest", () -> x.cost(0, 1000000, 1000000));
        for (int bad : new int[] {-1, 1000001}) {
            check.refused("change " + bad, Check.ARGUMENT, () -> x.cost(0, bad, 5));
            check.refused("fail " + bad, Check.ARGUMENT, () -> x.cost(0, 5, bad));
        }
        check.due("the costs stand", 2000000L, () -> x.changed(0, 4, 0));
    }

    private static void costsAreOfSorts() {
        check.sentence("12: CHANGE and FAIL of a SORT");
        EdgeWear x = new EdgeWear(0);
        for (int sort = 0; sort < 4; sort++) {
            x.life(sort, 3);
            x.life(sort, 5);
            x.cost(sort, 10 + sort, 1000 * (1 + sort));
        }
        for (int sort = 0; sort < 4; sort++) {
            int s = sort;
            check.due("changes of sort " + s, 20L + 2 * s, () -> x.changed(s, 3, 0));
            check.due("a fail of sort " + s, 1010L + 1001 * s, () -> x.changed(s, 5, 0));
        }
    }

    private static void failsBelowN() {
        check.sentence("for each LIFE that is below n FAIL, for each other one CHANGE");
        EdgeWear x = shop(10, 4, 10);
        x.cost(0, 3, 50);
        check.due("n = 1", 9L, () -> x.changed(0, 1, 0));
        check.due("n = 4, a life", 9L, () -> x.changed(0, 4, 0));
        check.due("n = 5, above it", 56L, () -> x.changed(0, 5, 0));
        check.due("n = 10, the greatest life", 56L, () -> x.changed(0, 10, 0));
    }

    private static void usesAreTheLesser() {
        check.sentence("it brings for each LIFE the lesser of both as uses");
        EdgeWear x = shop(10, 4, 10);
        long[][] want = {{1, 3}, {3, 9}, {4, 12}, {5, 14}, {9, 22}, {10, 24}};
        for (long[] row : want) {
            int n = (int) row[0];
            check.due("uses at " + n, row[1], () -> x.changed(0, n, 1));
        }
    }

    private static void changedUpToTheGreatest() {
        check.sentence("CHANGED at n uses (1 .. the greatest LIFE)");
        EdgeWear x = shop(10, 4);
        for (int part = 0; part < 2; part++) {
            int p = part;
            check.due("at 0", Check.ARGUMENT, () -> x.changed(0, 0, p));
            check.due("at 1", 2L, () -> x.changed(0, 1, p));
            check.due("at the greatest", p == 0 ? 2L : 14L, () -> x.changed(0, 10, p));
            check.due("above the greatest", Check.STATE, () -> x.changed(0, 11, p));
            check.due("without lives", Check.STATE, () -> x.changed(1, 1, p));
        }
        x.life(0, 11);
        check.due("a greater life counts at once", 3L, () -> x.changed(0, 11, 0));
        check.due("part -1", Check.INDEX, () -> x.changed(0, 1, -1));
        check.due("part 2", Check.INDEX, () -> x.changed(0, 1, 2));
    }

    private static void changedOfGreatNumbers() {
        check.sentence("14: all costs (part = 0), all uses (1)");
        EdgeWear x = new EdgeWear(0);
        for (int i = 0; i < 40; i++) {
            x.life(0, 1000);
        }
        x.cost(0, 1000000, 0);
        check.due("the greatest costs", 40000000L, () -> x.changed(0, 1000, 0));
        check.due("the greatest uses", 40000L, () -> x.changed(0, 1000, 1));
        check.due("the least uses", 40L, () -> x.changed(0, 1, 1));
    }

    private static void leastCostByUses() {
        check.sentence("The BEST n has the least cost by uses");
        EdgeWear x = shop(10, 4);
        check.due("a fail costs no more", 10, () -> x.change(0));
        x.cost(0, 1, 1000);
        check.due("fails are dear", 4, () -> x.change(0));
        x.cost(0, 0, 1);
        check.due("changing is free", 4, () -> x.change(0));
        x.cost(0, 1, 0);
        check.due("failing is free", 10, () -> x.change(0));
        check.due("one life alone", 7, () -> {
            x.life(1, 7);
            return x.change(1);
        });
    }

    private static void comparedExactly() {
        check.sentence("(exactly;");
        // Lives 2 and 4, change 2, fail 4: 4 / 4 at n = 2, and 6 / 6 at n = 4.
        EdgeWear x = shop(2, 4);
        x.cost(0, 200000, 400000);
        check.due("the same", 4, () -> x.change(0));
        x.cost(0, 200000, 400001);
        check.due("a little dearer", 2, () -> x.change(0));
        // 40 changes by 39960 uses, against 39 and a fail by 39999: the same if fail : change is 346 : 333.
        EdgeWear y = new EdgeWear(0);
        for (int i = 0; i < 39; i++) {
            y.life(0, 1000);
        }
        y.life(0, 999);
        for (int k = 2850; k <= 2890; k++) {
            int change = 333 * k;
            int fail = 346 * k;
            y.cost(0, change, fail);
            check.due("the same, of " + change, 1000, () -> y.change(0));
            y.cost(0, change, fail + 1);
            check.due("a little dearer, of " + change, 999, () -> y.change(0));
            y.cost(0, change, fail - 1);
            check.due("a little cheaper, of " + change, 1000, () -> y.change(0));
        }
    }

    private static void greatestOfSeveral() {
        check.sentence("of several the greatest n)");
        EdgeWear x = shop(2, 4);
        x.cost(0, 2, 4);
        check.due("of two", 4, () -> x.change(0));
        EdgeWear y = shop(4, 2);
        y.cost(0, 2, 4);
        check.due("of two, told the other way", 4, () -> y.change(0));
        EdgeWear z = shop(1000, 1, 999);
        z.cost(0, 0, 0);
        check.due("of all, without costs", 1000, () -> z.change(0));
        z.cost(0, 0, 1);
        check.due("of those up to the least life", 1, () -> z.change(0));
        EdgeWear w = shop(5, 5, 5);
        check.due("lives alike", 5, () -> w.change(0));
    }

    private static void changeIsAsTryingAllTells() {
        check.sentence("13: The BEST n");
        Random random = new Random(11);
        for (int round = 0; round < 400; round++) {
            EdgeWear x = new EdgeWear(round);
            int span = round % 2 == 0 ? 8 : 1000;
            int price = round % 3 == 0 ? 4 : 1000001;
            int[] lives = new int[1 + random.nextInt(40)];
            for (int i = 0; i < lives.length; i++) {
                lives[i] = 1 + random.nextInt(span);
                x.life(2, lives[i]);
            }
            int change = random.nextInt(price);
            int fail = random.nextInt(price);
            x.cost(2, change, fail);
            check.due("change of round " + round, bestByTryingAll(lives, change, fail),
                    () -> x.change(2));
        }
    }

    private static int bestByTryingAll(int[] lives, int change, int fail) {
        int greatest = 0;
        for (int life : lives) {
            greatest = Math.max(greatest, life);
        }
        int best = 0;
        BigInteger bestCost = null;
        BigInteger bestUses = null;
        for (int n = 1; n <= greatest; n++) {
            BigInteger cost = BigInteger.ZERO;
            BigInteger uses = BigInteger.ZERO;
            for (int life : lives) {
                cost = cost.add(BigInteger.valueOf(life < n ? fail : change));
                uses = uses.add(BigInteger.valueOf(Math.min(life, n)));
            }
            if (best == 0 || cost.multiply(bestUses).compareTo(bestCost.multiply(uses)) <= 0) {
                best = n;
                bestCost = cost;
                bestUses = uses;
            }
        }
        return best;
    }

    private static void changeNeedsLives() {
        check.sentence("13: IllegalStateException: no LIVES");
        EdgeWear x = shop(5);
        check.due("sort 0 has one", 5, () -> x.change(0));
        for (int sort = 1; sort < 4; sort++) {
            int s = sort;
            check.due("sort " + s + " has none", Check.STATE, () -> x.change(s));
        }
    }

    private static void breaksAreAsTheFormulaSays() {
        check.sentence("BREAK: the k-th one of a SORT breaks at one of its LIVES");
        int[] seeds = {0, 1, -5, 42, MAX, MIN};
        int[] ks = {0, 1, 2, 3, 1000, 536870911, 536870912, 1073741824, MAX};
        for (int seed : seeds) {
            EdgeWear x = new EdgeWear(seed);
            for (int sort = 0; sort < 4; sort++) {
                for (int i = 0; i < 3 + 9 * sort; i++) {
                    x.life(sort, 1000 - 7 * i);
                }
                int s = sort;
                for (int k : ks) {
                    int want = 1000 - 7 * place(seed, sort, k, 3 + 9 * sort);
                    check.due("seed " + seed + ": breaks(" + sort + ", " + k + ")", want,
                            () -> x.breaks(s, k));
                }
            }
        }
    }

    /** The document's formula in numbers without bounds, wrapped by hand. */
    private static int place(int seed, int sort, int k, int count) {
        BigInteger z = BigInteger.valueOf(4).multiply(BigInteger.valueOf(k))
                .add(BigInteger.valueOf(sort + 1)).multiply(new BigInteger("9E3779B97F4A7C15", 16))
                .add(BigInteger.valueOf(seed));
        z = wrapped(z);
        z = wrapped(z.xor(z.shiftRight(30)).multiply(new BigInteger("BF58476D1CE4E5B9", 16)));
        z = wrapped(z.xor(z.shiftRight(27)).multiply(new BigInteger("94D049BB133111EB", 16)));
        z = z.xor(z.shiftRight(31));
        return z.shiftRight(1).mod(BigInteger.valueOf(count)).intValue();
    }

    private static BigInteger wrapped(BigInteger z) {
        return z.mod(BigInteger.ONE.shiftLeft(64));
    }

    /** The z of seed 0, k 0, sort 0 is 0xE220A8397B1DCDAF, the known first number of this row. */
    private static void breaksAreWrapped() {
        check.sentence("z = z ^ z >>> 31 (all wrapped)");
        EdgeWear x = new EdgeWear(0);
        for (int i = 0; i < 40; i++) {
            x.life(0, 1 + i);
        }
        long half = 0xE220A8397B1DCDAFL >>> 1;
        check.due("the first of seed 0", 1 + (int) (half % 40), () -> x.breaks(0, 0));
        check.due("by the formula, too", (int) (half % 40), () -> place(0, 0, 0, 40));
    }

    private static void livesAsTheyWereTold() {
        check.sentence("it is the LIFE at (z >>> 1) modulo how many there are, as they were told");
        int[] lives = {9, 3, 9, 1000, 1, 3};
        EdgeWear x = new EdgeWear(-77);
        for (int i = 0; i < lives.length; i++) {
            x.life(3, lives[i]);
            x.life(0, 500 - i);
            for (int j = 0; j < 20; j++) {
                int k = j;
                int want = lives[place(-77, 3, k, i + 1)];
                check.due("breaks(3, " + k + ") of " + (i + 1) + " lives", want, () -> x.breaks(3, k));
            }
        }
    }

    private static void leastAndGreatestK() {
        check.sentence("15: k is below 0");
        EdgeWear x = shop(5, 6, 7);
        check.due("k = 0", 5 + place(0, 0, 0, 3), () -> x.breaks(0, 0));
        check.due("k = MAX", 5 + place(0, 0, MAX, 3), () -> x.breaks(0, MAX));
        check.due("k = -1", Check.ARGUMENT, () -> x.breaks(0, -1));
        check.due("k = MIN", Check.ARGUMENT, () -> x.breaks(0, MIN));
    }

    private static void breaksNeedLives() {
        check.sentence("15: IllegalStateException: no LIVES");
        EdgeWear x = new EdgeWear(9);
        check.due("without lives", Check.STATE, () -> x.breaks(1, 3));
        x.life(1, 5);
        check.due("one life alone", 5, () -> x.breaks(1, 3));
        check.due("another sort without lives", Check.STATE, () -> x.breaks(2, 3));
    }
}
