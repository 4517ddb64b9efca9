import java.math.BigInteger;
import java.util.Random;

/** Promise 21: chips between whole numbers. */
public final class ChipTest {
    private static final int MIN = Integer.MIN_VALUE;
    private static final int MAX = Integer.MAX_VALUE;

    private static final Check check = new Check();
    private static final EdgeWear x = new EdgeWear(0);

    public static void main(String[] args) {
        smallOnes();
        greatOnes();
        anyOnes();
        refuses();
        check.end();
    }

    /** The next whole number is asked for by the exact fraction, not by a rounded one. */
    private static void chip(int feed, int depth, int wide) {
        BigInteger f = BigInteger.valueOf(2L * feed);
        BigInteger over = f.multiply(f).multiply(BigInteger.valueOf(depth))
                .multiply(BigInteger.valueOf(wide - depth));
        BigInteger under = BigInteger.valueOf((long) wide * wide);
        BigInteger whole = over.divide(under).sqrt();
        boolean exact = whole.multiply(whole).multiply(under).equals(over);
        String call = "chip(" + feed + ", " + depth + ", " + wide + ", ";
        check.due(call + "0)", whole, () -> x.chip(feed, depth, wide, 0));
        check.due(call + "1)", exact ? whole : whole.add(BigInteger.ONE),
                () -> x.chip(feed, depth, wide, 1));
    }

    private static void smallOnes() {
        for (int wide = 1; wide <= 12; wide++) {
            for (int depth = 0; depth <= wide; depth++) {
                for (int feed = 0; feed <= 12; feed++) {
                    chip(feed, depth, wide);
                }
            }
        }
        check.due("cut off", 2, () -> x.chip(3, 1, 4, 0));
        check.due("not below", 3, () -> x.chip(3, 1, 4, 1));
        check.due("whole: 3 / 5 of the width twice over", 3, () -> x.chip(5, 1, 10, 0));
        check.due("whole: not one more", 3, () -> x.chip(5, 1, 10, 1));
    }

    private static void greatOnes() {
        for (int depth = 0; depth <= 1000; depth++) {
            chip(1000000, depth, 1000);
            chip(999999, depth, 1000);
            chip(999983, Math.min(depth, 997), 997);
        }
    }

    private static void anyOnes() {
        Random random = new Random(21);
        for (int i = 0; i < 5000; i++) {
            int wide = 1 + random.nextInt(1000);
            chip(random.nextInt(1000001), random.nextInt(wide + 1), wide);
        }
    }

    private static void refuses() {
        for (int bad : new int[] {-1, 2, MIN, MAX}) {
            check.due("end " + bad, Check.INDEX, () -> x.chip(1, 1, 1, bad));
            check.due("end " + bad + ", wrong feed", Check.INDEX, () -> x.chip(-1, 1, 1, bad));
        }
        for (int bad : new int[] {-1, 1000001, MIN, MAX}) {
            check.due("feed " + bad, Check.ARGUMENT, () -> x.chip(bad, 1, 2, 0));
        }
        for (int bad : new int[] {0, -1, 1001, MIN, MAX}) {
            check.due("wide " + bad, Check.ARGUMENT, () -> x.chip(1, 0, bad, 0));
            check.due("wide and depth " + bad, Check.ARGUMENT, () -> x.chip(1, bad, bad, 1));
        }
        for (int bad : new int[] {-1, 6, MIN, MAX}) {
            check.due("depth " + bad, Check.ARGUMENT, () -> x.chip(1, bad, 5, 1));
        }
    }
}
