/** Promises 16 and 17: rules and power readings. */
public final class PowerTest {
    private static final int MIN = Integer.MIN_VALUE;
    private static final int MAX = Integer.MAX_VALUE;

    private static final Check check = new Check();

    public static void main(String[] args) {
        firstNumbersOfTheRules();
        highComesFirst();
        runNeedsItsReadings();
        runOfTwo();
        longestRun();
        middleMustBePassed();
        jumpNeedsTwoSteps();
        readingsBelongToTools();
        manyReadings();
        rulesRefuse();
        powerRefuses();
        check.end();
    }

    private static EdgeWear shop() {
        EdgeWear x = new EdgeWear(0);
        x.tool(0, 10, 10);
        x.tool(0, 10, 10);
        return x;
    }

    /** Tells readings at the minutes 0, 1, 2 .. with what must fire at each. */
    private static void readings(String what, EdgeWear x, int[]... rows) {
        for (int i = 0; i < rows.length; i++) {
            int minute = i;
            check.due(what + ", reading " + i, rows[i][1], () -> x.power(0, minute, rows[minute][0]));
        }
    }

    private static void firstNumbersOfTheRules() {
        readings("high is 1000", shop(), new int[][] {{1000, -1}, {1001, 0}});
        readings("the first reading, too", shop(), new int[][] {{1001, 0}, {1000, -1}});
        readings("run is 4", shop(), new int[][] {{1, -1}, {2, -1}, {3, -1}, {4, 1}});
        readings("middle is 500", shop(), new int[][] {
            {501, -1}, {501, -1}, {501, -1}, {501, 2}, {500, -1}, {501, -1}});
        readings("jump is 600", shop(), new int[][] {{300, -1}, {0, -1}, {300, -1}, {601, 3}});
    }

    private static void highComesFirst() {
        EdgeWear x = shop();
        check.done("rules", () -> x.rules(10, 2, 5, 3));
        readings("order of rules", x, new int[][] {
            {6, -1}, {11, 0}, {10, 2}, {10, 2}, {5, 3}, {5, 3}, {5, -1}, {9, 1}, {8, 2}, {1, 3}});
    }

    private static void runNeedsItsReadings() {
        EdgeWear x = shop();
        x.rules(1000000, 3, 1000000, 1000000);
        readings("run of 3", x, new int[][] {
            {5, -1}, {6, -1}, {7, 1}, {7, -1}, {8, -1}, {9, 1}, {8, -1}, {9, -1}, {10, 1}, {11, 1}});
    }

    private static void runOfTwo() {
        EdgeWear x = shop();
        x.rules(1000000, 2, 1000000, 1000000);
        readings("run of 2", x, new int[][] {{0, -1}, {1, 1}, {1, -1}, {0, -1}, {1000000, 1}});
    }

    private static void longestRun() {
        EdgeWear x = shop();
        x.rules(1000000, 12, 1000000, 1000000);
        for (int i = 0; i < 40; i++) {
            int minute = i;
            int want = i < 11 ? EdgeWear.NONE : 1;
            check.due("run of 12, reading " + i, want, () -> x.power(0, minute, minute));
        }
        EdgeWear y = shop();
        y.rules(1000000, 12, 0, 1000000);
        for (int i = 0; i < 40; i++) {
            int minute = i;
            int want = i < 11 ? EdgeWear.NONE : 2;
            check.due("12 above 0, reading " + i, want, () -> y.power(0, minute, 1));
        }
    }

    private static void middleMustBePassed() {
        EdgeWear x = shop();
        x.rules(1000000, 3, 50, 1000000);
        readings("above middle", x, new int[][] {
            {53, -1}, {52, -1}, {51, 2}, {50, -1}, {60, -1}, {59, -1}, {58, 2}, {57, 2}});
    }

    private static void jumpNeedsTwoSteps() {
        EdgeWear x = shop();
        x.rules(1000000, 12, 1000000, 0);
        readings("jump of 0", x, new int[][] {
            {9, -1}, {1, -1}, {1, 3}, {1, -1}, {2, 3}, {2, 3}, {2, -1}, {1, 3}});
        EdgeWear y = shop();
        y.rules(1000000, 12, 1000000, 1000000);
        readings("greatest jump", y, new int[][] {
            {0, -1}, {1000000, -1}, {1000000, -1}, {0, -1}, {1, 3}, {1000000, -1}, {0, 3}});
    }

    private static void readingsBelongToTools() {
        EdgeWear x = shop();
        x.rules(100, 2, 100, 100);
        check.due("tool 0", -1, () -> x.power(0, 5, 1));
        check.due("tool 1 has no reading before", -1, () -> x.power(1, 0, 2));
        check.due("tool 0 rises", 1, () -> x.power(0, 6, 2));
        check.due("rules are for all tools", 1, () -> x.power(1, 1, 3));
        x.grind(0, 1);
        check.due("a barred tool is read, too", 1, () -> x.power(0, 7, 3));
    }

    private static void manyReadings() {
        EdgeWear x = shop();
        x.rules(1000000, 12, 1000000, 1000000);
        for (int i = 0; i < 100; i++) {
            int minute = i;
            // Each 13th reading falls, so that just one run of 12 ends before it.
            int want = i % 13 >= 11 ? 1 : -1;
            check.due("reading " + i, want, () -> x.power(0, minute, minute % 13));
        }
        x.rules(1000000, 2, 1000000, 1000000);
        check.due("a rule's new number counts at once", 1, () -> x.power(0, 100, 1000));
    }

    private static void rulesRefuse() {
        EdgeWear x = shop();
        for (int bad : new int[] {-1, 1000001, MIN, MAX}) {
            check.refused("high " + bad, Check.ARGUMENT, () -> x.rules(bad, 2, 0, 0));
            check.refused("middle " + bad, Check.ARGUMENT, () -> x.rules(0, 2, bad, 0));
            check.refused("jump " + bad, Check.ARGUMENT, () -> x.rules(0, 2, 0, bad));
        }
        for (int bad : new int[] {1, 0, -1, 13, MIN, MAX}) {
            check.refused("run " + bad, Check.ARGUMENT, () -> x.rules(0, bad, 0, 0));
        }
        readings("the rules stand", x, new int[][] {{1000, -1}, {1001, 0}, {1000, -1}, {999, 2}});
        check.done("least numbers", () -> x.rules(0, 2, 0, 0));
        check.done("greatest numbers", () -> x.rules(1000000, 12, 1000000, 1000000));
    }

    private static void powerRefuses() {
        EdgeWear x = shop();
        for (int bad : new int[] {-1, 2, 12, MIN, MAX}) {
            check.due("power of tool " + bad, Check.INDEX, () -> x.power(bad, -1, -1));
        }
        for (int bad : new int[] {-1, 1000001, MIN, MAX}) {
            check.due("reading of " + bad, Check.ARGUMENT, () -> x.power(0, 0, bad));
        }
        check.due("minute -1", Check.ARGUMENT, () -> x.power(0, -1, 1));
        check.due("minute MIN", Check.ARGUMENT, () -> x.power(0, MIN, 1));
        x.rules(1000000, 2, 1000000, 1000000);
        check.due("minute 0 is still free", -1, () -> x.power(0, 0, 5));
        check.due("the same minute", Check.ARGUMENT, () -> x.power(0, 0, 6));
        check.due("a reading refused at a later minute", Check.ARGUMENT, () -> x.power(0, 9, -1));
        check.due("that minute did not count, nor did the readings", 1, () -> x.power(0, 1, 6));
        check.due("the last minute", 1, () -> x.power(0, MAX, 7));
        check.due("no minute is behind it", Check.ARGUMENT, () -> x.power(0, MAX, 8));
        check.due("nor one before", Check.ARGUMENT, () -> x.power(0, 5, 8));
    }
}
