/** Promises 16 and 17: rules and power readings. RefusedCallsTest has what they refuse. */
public final class PowerTest {
    private static final int MAX = Integer.MAX_VALUE;
    /** As a number of a rule it keeps that rule silent at readings up to 500000. */
    private static final int NEVER = 1000000;

    private static final Check check = new Check();

    public static void main(String[] args) {
        numbersOfTheRulesAtFirst();
        aboveHigh();
        eachGreaterThanTheOneBefore();
        runReadingsMakeTheirSteps();
        leastAndGreatestRun();
        allAboveMiddle();
        sumOfTheLatestTwoSteps();
        inThisOrder();
        elseNone();
        leastAndGreatestNumbers();
        rulesThatAreToldCountAtOnce();
        moreThanTwentyFourReadings();
        readingsBelongToTools();
        eachBehindTheOneBefore();
        minutesFromZero();
        leastAndGreatestReading();
        refusedReadingsAreNone();
        check.end();
    }

    private static EdgeWear shop() {
        EdgeWear x = new EdgeWear(0);
        x.tool(0, 10, 10);
        x.tool(0, 10, 10);
        return x;
    }

    private static EdgeWear shop(int high, int run, int middle, int jump) {
        EdgeWear x = shop();
        check.done("rules", () -> x.rules(high, run, middle, jump));
        return x;
    }

    /** Tells readings at the minutes 0, 1, 2 .. with what must fire at each. */
    private static void readings(String what, EdgeWear x, int[]... rows) {
        for (int i = 0; i < rows.length; i++) {
            int minute = i;
            check.due(what + ", reading " + i, rows[i][1], () -> x.power(0, minute, rows[minute][0]));
        }
    }

    private static void numbersOfTheRulesAtFirst() {
        check.sentence("(HIGH 1000, RUN 4, MIDDLE 500, JUMP 600 at first; RUN 2 .. 12.)");
        readings("high is 1000", shop(), new int[][] {{1000, -1}, {1001, 0}});
        readings("run is 4", shop(), new int[][] {{1, -1}, {2, -1}, {3, -1}, {4, 1}});
        readings("middle is 500", shop(), new int[][] {
            {501, -1}, {501, -1}, {501, -1}, {501, 2}, {500, -1}, {501, -1}});
        readings("jump is 600", shop(), new int[][] {{300, -1}, {0, -1}, {300, -1}, {601, 3}});
    }

    private static void aboveHigh() {
        check.sentence("0, v is above HIGH");
        readings("high 10", shop(10, 12, NEVER, NEVER), new int[][] {
            {11, 0}, {10, -1}, {9, -1}, {11, 0}, {500, 0}, {10, -1}});
    }

    private static void eachGreaterThanTheOneBefore() {
        check.sentence("1, the RUN latest ones are each greater than the one before");
        readings("run of 3", shop(NEVER, 3, NEVER, NEVER), new int[][] {
            {5, -1}, {6, -1}, {7, 1}, {7, -1}, {8, -1}, {9, 1}, {8, -1}, {9, -1}, {10, 1}, {11, 1}});
    }

    private static void runReadingsMakeTheirSteps() {
        check.sentence("(RUN readings make RUN - 1 steps)");
        for (int r = 2; r <= 12; r++) {
            int run = r;
            EdgeWear x = shop(NEVER, run, NEVER, NEVER);
            for (int i = 0; i < 14; i++) {
                int minute = i;
                int want = i + 1 >= run ? 1 : EdgeWear.NONE;
                check.due("run of " + run + ", reading " + i, want, () -> x.power(0, minute, minute));
            }
            check.due("run of " + run + ", a fall", EdgeWear.NONE, () -> x.power(0, 14, 0));
        }
    }

    private static void leastAndGreatestRun() {
        check.sentence("16: run not 2 .. 12");
        EdgeWear x = shop(NEVER, 2, NEVER, NEVER);
        check.refused("run 1", Check.ARGUMENT, () -> x.rules(5, 1, 5, 5));
        readings("run of 2", x, new int[][] {{0, -1}, {1, 1}, {1, -1}, {0, -1}, {1000000, 1}});
        EdgeWear y = shop(NEVER, 12, 0, NEVER);
        check.refused("run 13", Check.ARGUMENT, () -> y.rules(5, 13, 5, 5));
        for (int i = 0; i < 40; i++) {
            int minute = i;
            int want = i < 11 ? EdgeWear.NONE : 2;
            check.due("12 above 0, reading " + i, want, () -> y.power(0, minute, 1));
        }
    }

    private static void allAboveMiddle() {
        check.sentence("2, RUN latest ones are all above MIDDLE");
        readings("middle 50", shop(NEVER, 3, 50, NEVER), new int[][] {
            {53, -1}, {52, -1}, {51, 2}, {50, -1}, {60, -1}, {59, -1}, {58, 2}, {57, 2}});
        // A run of 2 would rise at the first reading above.
        for (int r = 3; r <= 12; r++) {
            int run = r;
            EdgeWear x = shop(NEVER, run, 50, NEVER);
            x.power(0, 0, 50);
            for (int i = 1; i <= 12; i++) {
                int minute = i;
                int want = i >= run ? 2 : EdgeWear.NONE;
                check.due("run of " + run + ", reading " + i, want, () -> x.power(0, minute, 51));
            }
        }
    }

    private static void sumOfTheLatestTwoSteps() {
        check.sentence("3, the sum of the latest two steps' sizes is above JUMP");
        readings("jump of 10", shop(NEVER, 12, NEVER, 10), new int[][] {
            {100, -1}, {95, -1}, {100, -1}, {94, 3}, {94, -1}, {105, 3}, {105, 3}, {105, -1}});
        readings("rises and falls count alike", shop(NEVER, 12, NEVER, 10), new int[][] {
            {50, -1}, {45, -1}, {39, 3}, {45, 3}, {50, 3}, {55, -1}});
        readings("two readings make one step", shop(NEVER, 12, NEVER, 0), new int[][] {
            {9, -1}, {1, -1}, {1, 3}, {1, -1}, {2, 3}});
        readings("steps up to two million", shop(NEVER, 12, NEVER, NEVER), new int[][] {
            {0, -1}, {1000000, -1}, {1000000, -1}, {0, -1}, {1, 3}, {1000000, -1}, {0, 3}});
    }

    private static void inThisOrder() {
        check.sentence("RULES 0 .. 3, in this order, tell at a reading v");
        readings("all tell", shop(3, 3, 0, 0), new int[][] {{1, -1}, {2, -1}, {4, 0}});
        readings("all but 0 tell", shop(4, 3, 0, 0), new int[][] {{1, -1}, {2, -1}, {4, 1}});
        readings("2 and 3 tell", shop(4, 3, 0, 0), new int[][] {{2, -1}, {2, -1}, {1, 2}});
        readings("3 tells", shop(4, 3, 1, 0), new int[][] {{2, -1}, {2, -1}, {1, 3}});
        readings("0 and 1 tell", shop(3, 2, NEVER, NEVER), new int[][] {{1, -1}, {4, 0}});
        readings("0 and 2 tell", shop(3, 2, 3, NEVER), new int[][] {{5, 0}, {4, 0}});
        readings("0 and 3 tell", shop(3, 12, NEVER, 0), new int[][] {{9, 0}, {5, 0}, {4, 0}});
        readings("1 and 3 tell", shop(NEVER, 3, NEVER, 0), new int[][] {{1, -1}, {2, -1}, {4, 1}});
    }

    private static void elseNone() {
        check.sentence("FIRED is the first RULE that tells at the latest reading, else NONE");
        readings("what told before tells no more", shop(10, 2, 5, 3), new int[][] {
            {6, -1}, {11, 0}, {10, 2}, {10, 2}, {5, 3}, {5, 3}, {5, -1}, {9, 1}, {8, 2}, {1, 3}});
        readings("a first reading alone", shop(0, 2, 0, 0), new int[][] {{0, -1}, {0, -1}, {0, -1}});
    }

    private static void leastAndGreatestNumbers() {
        check.sentence("16: high, middle or jump is not 0 .. 1000000");
        readings("high 0", shop(0, 12, NEVER, NEVER), new int[][] {{0, -1}, {1, 0}});
        readings("high 1000000", shop(NEVER, 12, NEVER, NEVER), new int[][] {{1000000, -1}});
        readings("middle 0", shop(NEVER, 2, 0, NEVER), new int[][] {{1, -1}, {1, 2}, {0, -1}});
        readings("middle 1000000", shop(NEVER, 2, NEVER, NEVER), new int[][] {{1000000, -1}, {1000000, -1}});
        readings("jump 0", shop(NEVER, 12, NEVER, 0), new int[][] {{2, -1}, {2, -1}, {2, -1}, {1, 3}});
        EdgeWear x = shop();
        for (int bad : new int[] {-1, 1000001}) {
            check.refused("high " + bad, Check.ARGUMENT, () -> x.rules(bad, 2, 0, 0));
            check.refused("middle " + bad, Check.ARGUMENT, () -> x.rules(0, 2, bad, 0));
            check.refused("jump " + bad, Check.ARGUMENT, () -> x.rules(0, 2, 0, bad));
        }
        readings("the rules stand", x, new int[][] {{1000, -1}, {1001, 0}, {1000, -1}, {999, 2}});
    }

    private static void rulesThatAreToldCountAtOnce() {
        check.sentence("16: RULES' numbers");
        EdgeWear x = shop(NEVER, 12, NEVER, NEVER);
        readings("silent", x, new int[][] {{4, -1}, {5, -1}, {6, -1}});
        x.rules(NEVER, 4, NEVER, NEVER);
        check.due("readings from before count", 1, () -> x.power(0, 3, 7));
        x.rules(7, 4, NEVER, NEVER);
        check.due("high", 0, () -> x.power(0, 4, 8));
    }

    private static void moreThanTwentyFourReadings() {
        check.sentence("READINGS of a tool, the latest 24 of them");
        EdgeWear x = shop(NEVER, 12, NEVER, NEVER);
        for (int i = 0; i < 100; i++) {
            int minute = i;
            // Each 13th reading falls, so that 2 of 13 end a run of 12.
            int want = i % 13 >= 11 ? 1 : EdgeWear.NONE;
            check.due("rise, reading " + i, want, () -> x.power(0, minute, minute % 13));
        }
        EdgeWear y = shop(NEVER, 12, 5, NEVER);
        for (int i = 0; i < 100; i++) {
            int minute = i;
            int v = i % 13 == 0 ? 5 : 6;
            int want = i % 13 == 12 ? 2 : EdgeWear.NONE;
            check.due("above middle, reading " + i, want, () -> y.power(0, minute, v));
        }
        EdgeWear z = shop(NEVER, 12, NEVER, 3);
        for (int i = 0; i < 100; i++) {
            int minute = i;
            int v = i % 5 == 4 ? 9 : 5;
            // The step up, the step down, and the one behind it have a step of 4 among the latest two.
            int want = i >= 4 && i % 5 != 2 && i % 5 != 3 ? 3 : EdgeWear.NONE;
            check.due("jump, reading " + i, want, () -> z.power(0, minute, v));
        }
    }

    private static void readingsBelongToTools() {
        check.sentence("READINGS of a tool");
        EdgeWear x = shop(100, 2, 100, 100);
        check.due("tool 0", EdgeWear.NONE, () -> x.power(0, 5, 1));
        check.due("tool 1 has no reading before", EdgeWear.NONE, () -> x.power(1, 0, 2));
        check.due("tool 0 rises", 1, () -> x.power(0, 6, 2));
        check.due("rules are for all tools", 1, () -> x.power(1, 1, 3));
        x.grind(0, 1);
        check.due("a barred tool is read, too", 1, () -> x.power(0, 7, 3));
    }

    private static void eachBehindTheOneBefore() {
        check.sentence("17: minute not above the one before");
        EdgeWear x = shop();
        check.due("minute 5", EdgeWear.NONE, () -> x.power(0, 5, 1));
        check.due("minute 5 again", Check.ARGUMENT, () -> x.power(0, 5, 1));
        check.due("minute 4", Check.ARGUMENT, () -> x.power(0, 4, 1));
        check.due("minute 6", EdgeWear.NONE, () -> x.power(0, 6, 1));
        check.due("minute 4 of another tool", EdgeWear.NONE, () -> x.power(1, 4, 1));
        check.due("the last minute that an int has", EdgeWear.NONE, () -> x.power(0, MAX, 1));
        check.due("it again", Check.ARGUMENT, () -> x.power(0, MAX, 1));
        check.due("wrapped around", Check.ARGUMENT, () -> x.power(0, Integer.MIN_VALUE, 1));
        check.due("minute 0 behind it", Check.ARGUMENT, () -> x.power(0, 0, 1));
    }

    private static void minutesFromZero() {
        check.sentence("17: (at least 0)");
        EdgeWear x = shop();
        check.due("a first minute -1", Check.ARGUMENT, () -> x.power(0, -1, 1));
        check.due("a first minute 0", EdgeWear.NONE, () -> x.power(0, 0, 1));
        check.due("a first last minute", EdgeWear.NONE, () -> x.power(1, MAX, 1));
    }

    private static void leastAndGreatestReading() {
        check.sentence("17: v is not 0 .. 1000000");
        EdgeWear x = shop();
        check.due("0", EdgeWear.NONE, () -> x.power(0, 0, 0));
        check.due("1000000", 0, () -> x.power(0, 1, 1000000));
        check.due("-1", Check.ARGUMENT, () -> x.power(0, 2, -1));
        check.due("1000001", Check.ARGUMENT, () -> x.power(0, 2, 1000001));
    }

    private static void refusedReadingsAreNone() {
        check.sentence("17: A call that throws changes nothing");
        EdgeWear x = shop(NEVER, 3, NEVER, NEVER);
        x.power(0, 0, 5);
        x.power(0, 1, 6);
        check.due("a reading of -1 at a later minute", Check.ARGUMENT, () -> x.power(0, 9, -1));
        check.due("a reading of 1000001 at a later minute", Check.ARGUMENT, () -> x.power(0, 9, 1000001));
        check.due("a good one at a wrong minute", Check.ARGUMENT, () -> x.power(0, 1, 5));
        check.due("the third reading, at the next minute", 1, () -> x.power(0, 2, 7));
    }
}
