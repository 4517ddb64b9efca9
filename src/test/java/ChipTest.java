import java.math.BigInteger;
import java.util.Random;

/** Promise 21: chips between whole numbers. RefusedCallsTest has what it refuses. */
public final class ChipTest {
    private static final Check check = new Check();

    public static void main(String[] args) {
        leastAndGreatestFeed();
        leastAndGreatestWide();
        leastAndGreatestDepth();
        ends();
        cutOff();
        nextWholeNumber();
        smallOnes();
        greatOnes();
        anyOnes();
        check.end();
    }

    /** A new object each time: one is used for 512 calls at most. */
    private static void chip(int feed, int depth, int wide, Object low, Object high) {
        EdgeWear x = new EdgeWear(0);
        String call = "chip(" + feed + ", " + depth + ", " + wide + ", ";
        check.due(call + "0)", low, () -> x.chip(feed, depth, wide, 0));
        check.due(call + "1)", high, () -> x.chip(feed, depth, wide, 1));
    }

    /** The next whole number is asked for by the exact fraction, not by a rounded one. */
    private static void chipByTheFraction(int feed, int depth, int wide) {
        BigInteger f = BigInteger.valueOf(2L * feed);
        BigInteger over = f.multiply(f).multiply(BigInteger.valueOf(depth))
                .multiply(BigInteger.valueOf(wide - depth));
        BigInteger under = BigInteger.valueOf((long) wide * wide);
        BigInteger whole = over.divide(under).sqrt();
        boolean exact = whole.multiply(whole).multiply(under).equals(over);
        chip(feed, depth, wide, whole, exact ? whole : whole.add(BigInteger.ONE));
    }

    private static void refused(int feed, int depth, int wide) {
        chip(feed, depth, wide, Check.ARGUMENT, Check.ARGUMENT);
    }

    private static void leastAndGreatestFeed() {
        check.sentence("21: feed is not 0 .. 1000000");
        refused(-1, 1, 2);
        chip(0, 1, 2, 0, 0);
        chip(0, 1, 3, 0, 0);
        chip(1, 1, 2, 1, 1);
        chip(1000000, 1, 2, 1000000, 1000000);
        chip(1000000, 500, 1000, 1000000, 1000000);
        refused(1000001, 1, 2);
    }

    private static void leastAndGreatestWide() {
        check.sentence("21: wide not 1 .. 1000");
        refused(1, 0, 0);
        refused(1, 0, -1);
        chip(1000000, 0, 1, 0, 0);
        chip(1000000, 1, 1, 0, 0);
        // The square is 3996000000, its root 63213.92...
        chip(1000000, 1, 1000, 63213, 63214);
        refused(1, 1, 1001);
    }

    private static void leastAndGreatestDepth() {
        check.sentence("21: or depth not 0 .. wide");
        refused(5, -1, 10);
        chip(5, 0, 10, 0, 0);
        chip(5, 1, 10, 3, 3);
        chip(5, 9, 10, 3, 3);
        chip(5, 10, 10, 0, 0);
        refused(5, 11, 10);
        chip(1000000, 1000, 1000, 0, 0);
        refused(1000000, 1001, 1000);
    }

    private static void ends() {
        check.sentence("21: CHIP, cut off (end = 0) or not below it (1). IndexOutOfBoundsException: another end");
        EdgeWear x = new EdgeWear(0);
        check.due("end -1", Check.INDEX, () -> x.chip(3, 1, 4, -1));
        check.due("end 0", 2, () -> x.chip(3, 1, 4, 0));
        check.due("end 1", 3, () -> x.chip(3, 1, 4, 1));
        check.due("end 2", Check.INDEX, () -> x.chip(3, 1, 4, 2));
    }

    private static void cutOff() {
        check.sentence("told cut off to whole numbers");
        chip(1, 1, 4, 0, 1);
        chip(1, 499, 1000, 0, 1);
        chip(1, 501, 1000, 0, 1);
        // The nearest below a whole number that there are: doubles take them for whole.
        chip(851970, 461, 967, 851046, 851047);
        chip(851884, 420, 881, 850960, 850961);
        chip(999999, 499, 1000, 999996, 999997);
    }

    private static void nextWholeNumber() {
        check.sentence("or the next whole number, if it is not whole");
        // 3 / 5 and 4 / 5: with wide 10, depth 1 and 2 the thickness is just that part of the feed.
        chip(10, 1, 10, 6, 6);
        chip(10, 2, 10, 8, 8);
        chip(11, 1, 10, 6, 7);
        chip(14, 1, 10, 8, 9);
        chip(15, 1, 10, 9, 9);
        chip(1000000, 100, 1000, 600000, 600000);
        chip(999999, 100, 1000, 599999, 600000);
        chip(999999, 1, 2, 999999, 999999);
        // The nearest above a whole number that there are.
        chip(927411, 205, 582, 885986, 885987);
        chip(898235, 251, 794, 835288, 835289);
    }

    private static void smallOnes() {
        check.sentence("the square of the thickness is 4 * f * f * e * (D - e) / (D * D)");
        for (int wide = 1; wide <= 12; wide++) {
            for (int depth = 0; depth <= wide; depth++) {
                for (int feed = 0; feed <= 12; feed++) {
                    chipByTheFraction(feed, depth, wide);
                }
            }
        }
    }

    private static void greatOnes() {
        check.sentence("4 * f * f * e * (D - e) / (D * D)");
        for (int depth = 0; depth <= 1000; depth++) {
            chipByTheFraction(1000000, depth, 1000);
            chipByTheFraction(999999, depth, 1000);
            chipByTheFraction(999983, Math.min(depth, 997), 997);
        }
    }

    private static void anyOnes() {
        check.sentence("4 * f * f * e * (D - e) / (D * D)");
        Random random = new Random(21);
        for (int i = 0; i < 5000; i++) {
            int wide = 1 + random.nextInt(1000);
            chipByTheFraction(random.nextInt(1000001), random.nextInt(wide + 1), wide);
        }
    }
}
