/** Promises 2 to 10: tools, rates, limits, uses, grindings, spares. */
public final class ToolsTest {
    private static final int MIN = Integer.MIN_VALUE;
    private static final int MAX = Integer.MAX_VALUE;

    private static final Check check = new Check();

    public static void main(String[] args) {
        toolsAreNumberedAsTold();
        toolRefuses();
        ratesAreOfKindAndSpeed();
        rateRefuses();
        limitsAreOfSorts();
        limitRefuses();
        useWearsAndTellsBlunt();
        useRefuses();
        wearGrowsFar();
        grindTakesLengthOrBars();
        grindRefuses();
        aboutTellsAll();
        aboutRefuses();
        sparesAreCounted();
        takeChoosesTheShortest();
        bringBacksOnlyWhatIsOut();
        check.end();
    }

    private static void toolsAreNumberedAsTold() {
        EdgeWear x = new EdgeWear(0);
        check.due("tool of greatest length", 0, () -> x.tool(3, 1000000, 1000000));
        check.due("tool of no length", 1, () -> x.tool(0, 0, 0));
        check.due("tool of sort 3", 3L, () -> x.about(0, 2));
        check.due("length", 1000000L, () -> x.about(0, 1));
        for (int i = 2; i < 12; i++) {
            int want = i;
            check.due("tool " + i, want, () -> x.tool(1, 5, 1));
        }
        check.due("a 13th tool", Check.STATE, () -> x.tool(1, 5, 1));
        check.due("a 13th tool, wrong least", Check.ARGUMENT, () -> x.tool(1, 5, 6));
        check.due("a 13th tool, wrong sort", Check.INDEX, () -> x.tool(4, 5, 6));
        check.due("tool 11 stands", 5L, () -> x.about(11, 1));
        check.due("no tool 12", Check.INDEX, () -> x.about(12, 1));
    }

    private static void toolRefuses() {
        EdgeWear x = new EdgeWear(0);
        for (int sort : new int[] {-1, 4, MIN, MAX}) {
            check.due("tool of sort " + sort, Check.INDEX, () -> x.tool(sort, 1, 1));
            check.due("tool of sort " + sort + ", wrong length", Check.INDEX, () -> x.tool(sort, -1, 1));
        }
        check.due("least above length", Check.ARGUMENT, () -> x.tool(0, 10, 11));
        check.due("least below 0", Check.ARGUMENT, () -> x.tool(0, 10, -1));
        check.due("length above", Check.ARGUMENT, () -> x.tool(0, 1000001, 0));
        check.due("length below 0", Check.ARGUMENT, () -> x.tool(0, -1, -1));
        check.due("length MIN", Check.ARGUMENT, () -> x.tool(0, MIN, MIN));
        check.due("length MAX", Check.ARGUMENT, () -> x.tool(0, MAX, MAX));
        check.due("no tool came of it", 0, () -> x.tool(0, 10, 10));
    }

    private static void ratesAreOfKindAndSpeed() {
        EdgeWear x = new EdgeWear(0);
        x.tool(0, 10, 0);
        for (int kind = 0; kind < 4; kind++) {
            for (int speed = 0; speed < 4; speed++) {
                int k = kind;
                int s = speed;
                check.due("wear at first", true, () -> x.use(0, 1, k, s));
                check.done("rate", () -> x.rate(k, s, 100 + 10 * k + s));
            }
        }
        check.due("16 metres at rate 1", 16L, () -> x.about(0, 0));
        long wear = 16;
        for (int kind = 0; kind < 4; kind++) {
            for (int speed = 0; speed < 4; speed++) {
                x.use(0, 3, kind, speed);
                wear += 3L * (100 + 10 * kind + speed);
                long want = wear;
                check.due("wear by kind " + kind + ", speed " + speed, want, () -> x.about(0, 0));
            }
        }
        check.done("rate 0", () -> x.rate(2, 1, 0));
        check.due("use at rate 0", true, () -> x.use(0, 1000000, 2, 1));
        long want = wear;
        check.due("wear at rate 0", want, () -> x.about(0, 0));
    }

    private static void rateRefuses() {
        EdgeWear x = new EdgeWear(0);
        x.tool(0, 10, 0);
        for (int bad : new int[] {-1, 4, MIN, MAX}) {
            check.refused("rate of kind " + bad, Check.INDEX, () -> x.rate(bad, 0, -1));
            check.refused("rate of speed " + bad, Check.INDEX, () -> x.rate(0, bad, -1));
        }
        for (int bad : new int[] {-1, 1000001, MIN, MAX}) {
            check.refused("rate " + bad, Check.ARGUMENT, () -> x.rate(0, 0, bad));
        }
        x.use(0, 7, 0, 0);
        check.due("the rate stands", 7L, () -> x.about(0, 0));
    }

    private static void limitsAreOfSorts() {
        EdgeWear x = new EdgeWear(0);
        x.tool(0, 10, 0);
        x.tool(1, 10, 0);
        check.due("at the first limit", true, () -> x.use(0, 1000000, 0, 0));
        check.due("above the first limit", false, () -> x.use(0, 1, 0, 0));
        check.done("limit", () -> x.limit(0, 1000001));
        check.due("no longer blunt", 0L, () -> x.about(0, 3));
        check.done("least limit", () -> x.limit(0, 1));
        check.due("blunt again", 2L, () -> x.about(0, 3));
        check.due("the other sort at its own limit", true, () -> x.use(1, 1000000, 0, 0));
        check.done("greatest limit", () -> x.limit(1, 1000000000000L));
        x.rate(3, 3, 1000000);
        check.due("below 10^12 + 1", false, () -> x.use(1, 1000000, 3, 3));
        x.grind(1, 1);
        check.due("at 10^12", true, () -> x.use(1, 1000000, 3, 3));
        check.due("above 10^12", false, () -> x.use(1, 1, 0, 0));
    }

    private static void limitRefuses() {
        EdgeWear x = new EdgeWear(0);
        x.tool(0, 10, 0);
        for (int bad : new int[] {-1, 4, MIN, MAX}) {
            check.refused("limit of sort " + bad, Check.INDEX, () -> x.limit(bad, 0));
        }
        for (long bad : new long[] {0, -1, 1000000000001L, Long.MIN_VALUE, Long.MAX_VALUE}) {
            check.refused("limit " + bad, Check.ARGUMENT, () -> x.limit(0, bad));
        }
        x.use(0, 1000000, 0, 0);
        check.due("the limit stands", 0L, () -> x.about(0, 3));
        x.use(0, 1, 0, 0);
        check.due("the limit stands, above it", 2L, () -> x.about(0, 3));
    }

    private static void useWearsAndTellsBlunt() {
        EdgeWear x = new EdgeWear(0);
        x.tool(2, 10, 0);
        x.limit(2, 5);
        check.due("0 metres", true, () -> x.use(0, 0, 0, 0));
        check.due("0 metres count as a use", 1L, () -> x.about(0, 4));
        check.due("5 metres", true, () -> x.use(0, 5, 3, 3));
        check.due("1 metre more", false, () -> x.use(0, 1, 0, 3));
        check.due("a blunt tool is used on", false, () -> x.use(0, 1, 3, 0));
        check.due("wear", 7L, () -> x.about(0, 0));
        check.due("uses", 4L, () -> x.about(0, 4));
    }

    private static void useRefuses() {
        EdgeWear x = new EdgeWear(0);
        check.due("use without tools", Check.INDEX, () -> x.use(0, 1, 0, 0));
        x.tool(0, 10, 10);
        for (int bad : new int[] {-1, 4, MIN, MAX}) {
            check.due("use of tool " + bad, Check.INDEX, () -> x.use(bad, -1, 0, 0));
            check.due("use of kind " + bad, Check.INDEX, () -> x.use(0, -1, bad, 0));
            check.due("use of speed " + bad, Check.INDEX, () -> x.use(0, -1, 0, bad));
        }
        for (int bad : new int[] {-1, 1000001, MIN, MAX}) {
            check.due("use of metres " + bad, Check.ARGUMENT, () -> x.use(0, bad, 0, 0));
        }
        check.due("no use counted", 0L, () -> x.about(0, 4));
        check.due("no wear", 0L, () -> x.about(0, 0));
        x.grind(0, 1);
        check.due("use of a barred one", Check.STATE, () -> x.use(0, 1, 0, 0));
        check.due("use of a barred one, 0 metres", Check.STATE, () -> x.use(0, 0, 0, 0));
        check.due("use of a barred one, wrong metres", Check.ARGUMENT, () -> x.use(0, -1, 0, 0));
        check.due("use of a barred one, wrong kind", Check.INDEX, () -> x.use(0, -1, 4, 0));
        check.due("still no use counted", 0L, () -> x.about(0, 4));
    }

    private static void wearGrowsFar() {
        EdgeWear x = new EdgeWear(0);
        x.tool(0, 10, 0);
        x.rate(0, 0, 1000000);
        for (int i = 0; i < 500; i++) {
            x.use(0, 1000000, 0, 0);
        }
        check.due("500 * 10^12", 500000000000000L, () -> x.about(0, 0));
        check.due("500 uses", 500L, () -> x.about(0, 4));
    }

    private static void grindTakesLengthOrBars() {
        EdgeWear x = new EdgeWear(0);
        x.tool(0, 100, 40);
        x.limit(0, 5);
        x.use(0, 9, 0, 0);
        check.due("grind", true, () -> x.grind(0, 59));
        check.due("length", 41L, () -> x.about(0, 1));
        check.due("wear", 0L, () -> x.about(0, 0));
        check.due("grind to the least", true, () -> x.grind(0, 1));
        check.due("length at the least", 40L, () -> x.about(0, 1));
        check.due("grindings", 2L, () -> x.about(0, 5));
        check.due("uses stay", 1L, () -> x.about(0, 4));
        x.use(0, 8, 0, 0);
        check.due("grind below the least", false, () -> x.grind(0, 1));
        check.due("length stays", 40L, () -> x.about(0, 1));
        check.due("wear stays", 8L, () -> x.about(0, 0));
        check.due("barred and blunt", 3L, () -> x.about(0, 3));
        check.due("it was not ground", 2L, () -> x.about(0, 5));
        x.tool(1, 1000000, 0);
        check.due("grind all off", true, () -> x.grind(1, 1000000));
        check.due("no length left", 0L, () -> x.about(1, 1));
        check.due("not barred", 0L, () -> x.about(1, 3));
        check.due("grind without length", false, () -> x.grind(1, 1000000));
        check.due("length is not below 0", 0L, () -> x.about(1, 1));
    }

    private static void grindRefuses() {
        EdgeWear x = new EdgeWear(0);
        x.tool(0, 10, 10);
        for (int bad : new int[] {-1, 1, MIN, MAX}) {
            check.due("grind of tool " + bad, Check.INDEX, () -> x.grind(bad, 0));
        }
        for (int bad : new int[] {0, -1, 1000001, MIN, MAX}) {
            check.due("grind by " + bad, Check.ARGUMENT, () -> x.grind(0, bad));
        }
        check.due("neither ground nor barred", 0L, () -> x.about(0, 3) + x.about(0, 5));
        check.due("grind bars", false, () -> x.grind(0, 1));
        check.due("grind of a barred one", Check.STATE, () -> x.grind(0, 1));
        check.due("grind of a barred one, wrong off", Check.ARGUMENT, () -> x.grind(0, 0));
    }

    private static void aboutTellsAll() {
        EdgeWear x = new EdgeWear(0);
        x.tool(3, 77, 70);
        x.limit(3, 4);
        x.take(3);
        check.due("out", 4L, () -> x.about(0, 3));
        x.use(0, 2, 0, 0);
        x.grind(0, 1);
        x.use(0, 2, 0, 0);
        x.use(0, 3, 0, 0);
        check.due("wear", 5L, () -> x.about(0, 0));
        check.due("length", 76L, () -> x.about(0, 1));
        check.due("sort", 3L, () -> x.about(0, 2));
        check.due("blunt and out", 6L, () -> x.about(0, 3));
        check.due("uses", 3L, () -> x.about(0, 4));
        check.due("grindings", 1L, () -> x.about(0, 5));
        x.grind(0, 7);
        check.due("barred, blunt and out", 7L, () -> x.about(0, 3));
        x.bring(0);
        check.due("barred and blunt", 3L, () -> x.about(0, 3));
        x.limit(3, 5);
        check.due("barred alone", 1L, () -> x.about(0, 3));
    }

    private static void aboutRefuses() {
        EdgeWear x = new EdgeWear(0);
        x.tool(0, 10, 0);
        for (int bad : new int[] {-1, 1, 12, MIN, MAX}) {
            check.due("about tool " + bad, Check.INDEX, () -> x.about(bad, 0));
        }
        for (int bad : new int[] {-1, 6, MIN, MAX}) {
            check.due("about what " + bad, Check.INDEX, () -> x.about(0, bad));
        }
    }

    private static void sparesAreCounted() {
        EdgeWear x = new EdgeWear(0);
        x.tool(0, 10, 5);
        x.tool(0, 10, 5);
        x.tool(1, 10, 5);
        x.tool(0, 10, 5);
        check.due("spares", 3, () -> x.spare(0));
        check.due("spares of another sort", 1, () -> x.spare(1));
        check.due("spares of an empty sort", 0, () -> x.spare(3));
        x.use(0, 1, 0, 0);
        check.due("worn is no spare", 2, () -> x.spare(0));
        x.grind(0, 1);
        check.due("ground is a spare", 3, () -> x.spare(0));
        x.use(0, 0, 0, 0);
        check.due("used without wear is a spare", 3, () -> x.spare(0));
        x.grind(1, 6);
        check.due("barred is no spare", 2, () -> x.spare(0));
        x.take(0);
        check.due("out is no spare", 1, () -> x.spare(0));
        for (int bad : new int[] {-1, 4, MIN, MAX}) {
            check.due("spares of sort " + bad, Check.INDEX, () -> x.spare(bad));
        }
    }

    private static void takeChoosesTheShortest() {
        EdgeWear x = new EdgeWear(0);
        x.tool(0, 1000000, 0);
        x.tool(0, 20, 0);
        x.tool(1, 5, 0);
        x.tool(0, 20, 0);
        x.tool(0, 10, 0);
        check.due("the shortest", 4, () -> x.take(0));
        check.due("the first of two", 1, () -> x.take(0));
        check.due("the second of two", 3, () -> x.take(0));
        check.due("the longest", 0, () -> x.take(0));
        check.due("none left", EdgeWear.NONE, () -> x.take(0));
        x.bring(0);
        x.bring(1);
        x.grind(0, 999999);
        check.due("by its length now", 0, () -> x.take(0));
        x.use(1, 1, 0, 0);
        check.due("worn is not taken", EdgeWear.NONE, () -> x.take(0));
        check.due("another sort", 2, () -> x.take(1));
        for (int bad : new int[] {-1, 4, MIN, MAX}) {
            check.due("take of sort " + bad, Check.INDEX, () -> x.take(bad));
        }
    }

    private static void bringBacksOnlyWhatIsOut() {
        EdgeWear x = new EdgeWear(0);
        x.tool(0, 10, 10);
        check.due("it was not out", false, () -> x.bring(0));
        x.take(0);
        check.due("it was out", true, () -> x.bring(0));
        check.due("it is back", false, () -> x.bring(0));
        check.due("it is taken again", 0, () -> x.take(0));
        x.grind(0, 1);
        check.due("a barred one comes back, too", true, () -> x.bring(0));
        check.due("barred for ever", 1L, () -> x.about(0, 3));
        check.due("a barred one is not taken", EdgeWear.NONE, () -> x.take(0));
        for (int bad : new int[] {-1, 1, MIN, MAX}) {
            check.due("bring of tool " + bad, Check.INDEX, () -> x.bring(bad));
        }
    }
}
