/** Promises 2 to 10: tools, rates, limits, uses, grindings, spares. RefusedCallsTest has what they refuse. */
public final class ToolsTest {
    private static final int MIN = Integer.MIN_VALUE;
    private static final long MOST_LIMIT = 1000000000000L;

    private static final Check check = new Check();

    public static void main(String[] args) {
        toolsAreNumberedAsTold();
        twelveTools();
        sortsOfTools();
        leastIsUpToLength();
        greatestLength();
        aNewTool();
        ratesAtFirst();
        ratesAreOfKindAndSpeed();
        leastAndGreatestRate();
        limitsAtFirst();
        limitsAreOfSorts();
        leastAndGreatestLimit();
        bluntAboveTheLimit();
        bluntAsLongAsItIsAbove();
        leastAndGreatestMetres();
        wearIsNotWrapped();
        groundDownToLeast();
        barredBelowLeast();
        leastAndGreatestOff();
        barredForEver();
        aboutTellsAll();
        noSpares();
        sparesAreNotBarredNorWornNorOut();
        nextIsTheShortest();
        nextIsTheFirstOfSeveral();
        noneIsTaken();
        broughtBack();
        check.end();
    }

    private static EdgeWear shop(int... lengths) {
        EdgeWear x = new EdgeWear(0);
        for (int length : lengths) {
            x.tool(0, length, 0);
        }
        return x;
    }

    private static void toolsAreNumberedAsTold() {
        check.sentence("TOOLS 0 .. 11 (as they are told)");
        EdgeWear x = new EdgeWear(0);
        for (int i = 0; i < 12; i++) {
            int number = i;
            check.due("about tool " + i + " before it is told", Check.INDEX, () -> x.about(number, 1));
            check.due("tool " + i, number, () -> x.tool(number % 4, 100 + number, 0));
            check.due("its length", 100L + number, () -> x.about(number, 1));
        }
    }

    private static void twelveTools() {
        check.sentence("2: IllegalStateException: there are 12");
        EdgeWear x = shop(1, 2, 3, 4, 5, 6, 7, 8, 9, 10, 11);
        check.due("the 12th tool", 11, () -> x.tool(0, 12, 0));
        check.due("a 13th tool", Check.STATE, () -> x.tool(0, 13, 0));
        check.due("the 12th stands", 12L, () -> x.about(11, 1));
        check.due("there is no 13th", Check.INDEX, () -> x.about(12, 1));
        check.due("spares", 12, () -> x.spare(0));
        x.grind(0, 1000000);
        check.due("barred ones count, too", Check.STATE, () -> x.tool(0, 13, 0));
    }

    private static void sortsOfTools() {
        check.sentence("are of a SORT 0 .. 3");
        EdgeWear x = new EdgeWear(0);
        for (int i = 0; i < 4; i++) {
            int sort = i;
            check.due("tool of sort " + sort, sort, () -> x.tool(sort, 5, 5));
            check.due("its sort", (long) sort, () -> x.about(sort, 2));
            check.due("spares of sort " + sort, 1, () -> x.spare(sort));
        }
        check.due("tool of sort 4", Check.INDEX, () -> x.tool(4, 5, 5));
        check.due("tool of sort -1", Check.INDEX, () -> x.tool(-1, 5, 5));
    }

    private static void leastIsUpToLength() {
        check.sentence("2: LEAST is not 0 .. LENGTH");
        EdgeWear x = new EdgeWear(0);
        check.due("least 0", 0, () -> x.tool(0, 10, 0));
        check.due("least as length", 1, () -> x.tool(0, 10, 10));
        check.due("no length", 2, () -> x.tool(0, 0, 0));
        check.due("length 1, least 1", 3, () -> x.tool(0, 1, 1));
        check.due("length 0", 0L, () -> x.about(2, 1));
        check.due("least -1", Check.ARGUMENT, () -> x.tool(0, 10, -1));
        check.due("least above length", Check.ARGUMENT, () -> x.tool(0, 10, 11));
        check.due("length -1", Check.ARGUMENT, () -> x.tool(0, -1, -1));
        check.due("length MIN", Check.ARGUMENT, () -> x.tool(0, MIN, MIN));
        check.due("the next number", 4, () -> x.tool(0, 10, 5));
    }

    private static void greatestLength() {
        check.sentence("2: or LENGTH above 1000000");
        EdgeWear x = new EdgeWear(0);
        check.due("greatest length", 0, () -> x.tool(0, 1000000, 0));
        check.due("greatest least", 1, () -> x.tool(0, 1000000, 1000000));
        check.due("above it", Check.ARGUMENT, () -> x.tool(0, 1000001, 0));
        check.due("length of 0", 1000000L, () -> x.about(0, 1));
        check.due("length of 1", 1000000L, () -> x.about(1, 1));
    }

    private static void aNewTool() {
        check.sentence("WEAR (0), and may be BARRED (for ever)");
        EdgeWear x = shop(10);
        check.due("wear", 0L, () -> x.about(0, 0));
        check.due("neither barred nor blunt nor out", 0L, () -> x.about(0, 3));
        check.due("uses", 0L, () -> x.about(0, 4));
        check.due("grindings", 0L, () -> x.about(0, 5));
    }

    private static void ratesAtFirst() {
        check.sentence("for each KIND 0 .. 3 of wood and SPEED 0 .. 3 (1 at first)");
        EdgeWear x = shop(10);
        for (int i = 0; i < 16; i++) {
            int kind = i / 4;
            int speed = i % 4;
            long wear = 5L * (i + 1);
            check.due("use at " + kind + ", " + speed, true, () -> x.use(0, 5, kind, speed));
            check.due("wear at " + kind + ", " + speed, wear, () -> x.about(0, 0));
        }
    }

    private static void ratesAreOfKindAndSpeed() {
        check.sentence("3: A RATE");
        EdgeWear x = shop(10);
        for (int i = 0; i < 16; i++) {
            int at = i;
            check.done("rate", () -> x.rate(at / 4, at % 4, 100 + at));
        }
        long wear = 0;
        for (int i = 0; i < 16; i++) {
            x.use(0, 3, i / 4, i % 4);
            wear += 3L * (100 + i);
            long want = wear;
            check.due("wear by kind " + i / 4 + ", speed " + i % 4, want, () -> x.about(0, 0));
        }
        x.rate(1, 2, 7);
        check.due("wear that there is stays", wear, () -> x.about(0, 0));
        x.use(0, 1, 1, 2);
        check.due("the later rate counts", wear + 7, () -> x.about(0, 0));
    }

    private static void leastAndGreatestRate() {
        check.sentence("3: v is not 0 .. 1000000");
        EdgeWear x = shop(10);
        check.done("rate 0", () -> x.rate(0, 0, 0));
        check.due("use at rate 0", true, () -> x.use(0, 1000000, 0, 0));
        check.due("no wear", 0L, () -> x.about(0, 0));
        check.done("rate 1000000", () -> x.rate(3, 3, 1000000));
        check.due("use at rate 1000000", true, () -> x.use(0, 1, 3, 3));
        check.due("a million", 1000000L, () -> x.about(0, 0));
        check.refused("rate -1", Check.ARGUMENT, () -> x.rate(3, 3, -1));
        check.refused("rate 1000001", Check.ARGUMENT, () -> x.rate(3, 3, 1000001));
        x.use(0, 1, 3, 3);
        check.due("the rate stands", 2000000L, () -> x.about(0, 0));
    }

    private static void limitsAtFirst() {
        check.sentence("a SORT has a LIMIT of WEAR (1000000 at first)");
        EdgeWear x = new EdgeWear(0);
        for (int i = 0; i < 4; i++) {
            int tool = i;
            x.tool(tool, 10, 0);
            check.due("at the limit of sort " + i, true, () -> x.use(tool, 1000000, 0, 0));
            check.due("above the limit of sort " + i, false, () -> x.use(tool, 1, 0, 0));
        }
    }

    private static void limitsAreOfSorts() {
        check.sentence("4: A SORT's LIMIT");
        EdgeWear x = new EdgeWear(0);
        for (int i = 0; i < 4; i++) {
            int sort = i;
            x.tool(sort, 10, 0);
            check.done("limit", () -> x.limit(sort, 10 + sort));
        }
        for (int i = 0; i < 4; i++) {
            int tool = i;
            check.due("at the limit of sort " + i, true, () -> x.use(tool, 10 + tool, 0, 0));
            check.due("above the limit of sort " + i, false, () -> x.use(tool, 1, 0, 0));
        }
    }

    private static void leastAndGreatestLimit() {
        check.sentence("4: v is not 1 .. 10^12");
        EdgeWear x = shop(10);
        x.rate(3, 3, 1000000);
        check.done("least limit", () -> x.limit(0, 1));
        check.due("wear 1", true, () -> x.use(0, 1, 0, 0));
        check.due("wear 2", false, () -> x.use(0, 1, 0, 0));
        check.done("greatest limit", () -> x.limit(0, MOST_LIMIT));
        x.grind(0, 1);
        check.due("wear 10^12", true, () -> x.use(0, 1000000, 3, 3));
        check.refused("limit 0", Check.ARGUMENT, () -> x.limit(0, 0));
        check.refused("limit 10^12 + 1", Check.ARGUMENT, () -> x.limit(0, MOST_LIMIT + 1));
        check.due("it is not blunt", 0L, () -> x.about(0, 3));
        check.due("wear 10^12 + 1", false, () -> x.use(0, 1, 0, 0));
        check.done("limit 10^12 - 1", () -> x.limit(0, MOST_LIMIT - 1));
        x.grind(0, 1);
        check.due("wear 10^12 above it", false, () -> x.use(0, 1000000, 3, 3));
    }

    private static void bluntAboveTheLimit() {
        check.sentence("A tool is BLUNT as long as its WEAR is above its SORT's LIMIT");
        EdgeWear x = shop(10);
        x.limit(0, 5);
        check.due("wear 4", true, () -> x.use(0, 4, 0, 0));
        check.due("wear 5", true, () -> x.use(0, 1, 0, 0));
        check.due("marks at wear 5", 0L, () -> x.about(0, 3));
        check.due("wear 6", false, () -> x.use(0, 1, 0, 0));
        check.due("marks at wear 6", 2L, () -> x.about(0, 3));
        check.due("a blunt one is used on", false, () -> x.use(0, 1, 0, 0));
        check.due("wear 7", 7L, () -> x.about(0, 0));
        check.due("uses", 4L, () -> x.about(0, 4));
    }

    private static void bluntAsLongAsItIsAbove() {
        check.sentence("BLUNT as long as");
        EdgeWear x = shop(10);
        x.limit(0, 5);
        x.use(0, 6, 0, 0);
        x.limit(0, 6);
        check.due("at a greater limit", 0L, () -> x.about(0, 3));
        check.due("a use without wear", true, () -> x.use(0, 0, 0, 0));
        x.limit(0, 5);
        check.due("at the limit that was", 2L, () -> x.about(0, 3));
        check.due("a use without wear of a blunt one", false, () -> x.use(0, 0, 0, 0));
        x.grind(0, 1);
        check.due("ground", 0L, () -> x.about(0, 3));
    }

    private static void leastAndGreatestMetres() {
        check.sentence("5: metres are not 0 .. 1000000");
        EdgeWear x = shop(10);
        check.due("0 metres", true, () -> x.use(0, 0, 0, 0));
        check.due("no wear", 0L, () -> x.about(0, 0));
        check.due("a use", 1L, () -> x.about(0, 4));
        check.due("1000000 metres", true, () -> x.use(0, 1000000, 0, 0));
        check.due("-1 metres", Check.ARGUMENT, () -> x.use(0, -1, 0, 0));
        check.due("1000001 metres", Check.ARGUMENT, () -> x.use(0, 1000001, 0, 0));
        check.due("wear", 1000000L, () -> x.about(0, 0));
        check.due("uses", 2L, () -> x.about(0, 4));
    }

    /** 512 calls can't bring 10^15, at which wear would stop; 508 * 10^12 is as far as a test gets. */
    private static void wearIsNotWrapped() {
        check.sentence("its WEAR grows by metres * RATE (at most 10^15)");
        EdgeWear x = shop(10);
        x.rate(0, 0, 1000000);
        for (int i = 1; i <= 508; i++) {
            check.due("use " + i, false, () -> x.use(0, 1000000, 0, 0));
        }
        check.due("508 * 10^12", 508000000000000L, () -> x.about(0, 0));
        check.due("508 uses", 508L, () -> x.about(0, 4));
    }

    private static void groundDownToLeast() {
        check.sentence("GROUND by off: LENGTH becomes less by off, WEAR 0");
        EdgeWear x = new EdgeWear(0);
        x.tool(0, 100, 40);
        x.use(0, 9, 0, 0);
        check.due("grind", true, () -> x.grind(0, 59));
        check.due("length", 41L, () -> x.about(0, 1));
        check.due("wear", 0L, () -> x.about(0, 0));
        check.due("grind to the least", true, () -> x.grind(0, 1));
        check.due("length is the least", 40L, () -> x.about(0, 1));
        check.due("it is not barred", 0L, () -> x.about(0, 3));
        check.due("grindings", 2L, () -> x.about(0, 5));
        check.due("uses stay", 1L, () -> x.about(0, 4));
    }

    private static void barredBelowLeast() {
        check.sentence("if LENGTH would be below LEAST, it is BARRED instead (LENGTH, WEAR stay)");
        EdgeWear x = new EdgeWear(0);
        x.tool(0, 100, 40);
        x.limit(0, 5);
        x.use(0, 8, 0, 0);
        check.due("grind one too far", false, () -> x.grind(0, 61));
        check.due("length stays", 100L, () -> x.about(0, 1));
        check.due("wear stays", 8L, () -> x.about(0, 0));
        check.due("barred and blunt", 3L, () -> x.about(0, 3));
        check.due("it was not ground", 0L, () -> x.about(0, 5));
        x.tool(1, 100, 40);
        check.due("grind just as far", true, () -> x.grind(1, 60));
        x.tool(1, 7, 7);
        check.due("grind where nothing may go", false, () -> x.grind(2, 1));
        check.due("barred", 1L, () -> x.about(2, 3));
    }

    private static void leastAndGreatestOff() {
        check.sentence("6: off is not 1 .. 1000000");
        EdgeWear x = shop(1000000, 1000000, 0);
        check.due("off 1", true, () -> x.grind(0, 1));
        check.due("length", 999999L, () -> x.about(0, 1));
        check.due("off 1000000", true, () -> x.grind(1, 1000000));
        check.due("no length left", 0L, () -> x.about(1, 1));
        check.due("off 0", Check.ARGUMENT, () -> x.grind(0, 0));
        check.due("off 1000001", Check.ARGUMENT, () -> x.grind(0, 1000001));
        check.due("neither barred", 0L, () -> x.about(0, 3) + x.about(1, 3));
        check.due("greatest off where there is no length", false, () -> x.grind(2, 1000000));
        check.due("length is not below 0", 0L, () -> x.about(2, 1));
    }

    private static void barredForEver() {
        check.sentence("A BARRED tool is not USED or GROUND any more");
        EdgeWear x = new EdgeWear(0);
        x.tool(0, 10, 5);
        x.take(0);
        x.grind(0, 6);
        check.due("grind that would fit", Check.STATE, () -> x.grind(0, 5));
        check.due("use", Check.STATE, () -> x.use(0, 1, 0, 0));
        check.due("use of 0 metres", Check.STATE, () -> x.use(0, 0, 0, 0));
        check.due("brought back", true, () -> x.bring(0));
        x.limit(0, 1000);
        check.due("barred as before", 1L, () -> x.about(0, 3));
        check.due("not ground", 10L, () -> x.about(0, 1));
        check.due("neither used nor ground", 0L, () -> x.about(0, 4) + x.about(0, 5));
    }

    private static void aboutTellsAll() {
        check.sentence("7: WEAR (what = 0), LENGTH (1), SORT (2), BARRED 1 + BLUNT 2 + OUT 4 (3), "
                + "uses (4), grindings (5)");
        EdgeWear x = new EdgeWear(0);
        x.tool(3, 77, 70);
        x.limit(3, 4);
        x.take(3);
        check.due("out", 4L, () -> x.about(0, 3));
        x.use(0, 2, 0, 0);
        x.grind(0, 1);
        x.use(0, 2, 0, 0);
        x.use(0, 3, 0, 0);
        long[] want = {5, 76, 3, 6, 3, 1};
        for (int i = 0; i < want.length; i++) {
            int what = i;
            check.due("about(0, " + i + ")", want[i], () -> x.about(0, what));
        }
        check.due("what -1", Check.INDEX, () -> x.about(0, -1));
        check.due("what 6", Check.INDEX, () -> x.about(0, 6));
        x.grind(0, 7);
        check.due("barred, blunt and out", 7L, () -> x.about(0, 3));
        x.limit(3, 5);
        check.due("barred and out", 5L, () -> x.about(0, 3));
        x.bring(0);
        check.due("barred alone", 1L, () -> x.about(0, 3));
        x.limit(3, 4);
        check.due("barred and blunt", 3L, () -> x.about(0, 3));
    }

    private static void noSpares() {
        check.sentence("8: How many SPARE ones a SORT has");
        EdgeWear x = new EdgeWear(0);
        check.due("no tools", 0, () -> x.spare(0));
        for (int i = 0; i < 12; i++) {
            x.tool(2, 10, 5);
        }
        check.due("12 tools", 12, () -> x.spare(2));
        check.due("none of another sort", 0, () -> x.spare(3));
    }

    private static void sparesAreNotBarredNorWornNorOut() {
        check.sentence("SPARE of a SORT are tools of it that are not BARRED, have WEAR 0, and are not OUT");
        EdgeWear x = new EdgeWear(0);
        for (int i = 0; i < 4; i++) {
            x.tool(0, 10 - i, 5);
        }
        check.due("all", 4, () -> x.spare(0));
        x.use(0, 1, 0, 0);
        check.due("worn is no spare", 3, () -> x.spare(0));
        x.grind(0, 1);
        check.due("ground is a spare", 4, () -> x.spare(0));
        x.use(0, 0, 0, 0);
        check.due("used without wear is a spare", 4, () -> x.spare(0));
        x.grind(1, 9);
        check.due("barred is no spare", 3, () -> x.spare(0));
        check.due("taken", 3, () -> x.take(0));
        check.due("out is no spare", 2, () -> x.spare(0));
        x.use(3, 1, 0, 0);
        x.bring(3);
        check.due("back with wear is no spare", 2, () -> x.spare(0));
        x.grind(3, 1);
        check.due("back and ground is a spare", 3, () -> x.spare(0));
    }

    private static void nextIsTheShortest() {
        check.sentence("The next one of a SORT is that SPARE with the least LENGTH");
        EdgeWear x = shop(1000000, 20, 0);
        x.tool(1, 0, 0);
        check.due("without length", 2, () -> x.take(0));
        check.due("it is out", 4L, () -> x.about(2, 3));
        check.due("the shorter one", 1, () -> x.take(0));
        check.due("of the greatest length", 0, () -> x.take(0));
        x.bring(0);
        x.bring(1);
        x.grind(0, 999981);
        check.due("by its length now", 0, () -> x.take(0));
        check.due("of another sort", 3, () -> x.take(1));
    }

    private static void nextIsTheFirstOfSeveral() {
        check.sentence("(of several the least number)");
        EdgeWear x = shop(30, 20, 20, 20);
        check.due("the first", 1, () -> x.take(0));
        check.due("the second", 2, () -> x.take(0));
        x.bring(1);
        check.due("the first again", 1, () -> x.take(0));
        check.due("the third", 3, () -> x.take(0));
        check.due("the longest", 0, () -> x.take(0));
    }

    private static void noneIsTaken() {
        check.sentence("9: NONE if there is none");
        EdgeWear x = new EdgeWear(0);
        check.due("without tools", EdgeWear.NONE, () -> x.take(0));
        x.tool(0, 10, 5);
        check.due("of another sort", EdgeWear.NONE, () -> x.take(1));
        check.due("the last one", 0, () -> x.take(0));
        check.due("all are out", EdgeWear.NONE, () -> x.take(0));
        x.bring(0);
        x.use(0, 1, 0, 0);
        check.due("all are worn", EdgeWear.NONE, () -> x.take(0));
        check.due("a worn one is not out", 0L, () -> x.about(0, 3));
        x.grind(0, 6);
        check.due("all are barred", EdgeWear.NONE, () -> x.take(0));
        check.due("a barred one is not out", 1L, () -> x.about(0, 3));
    }

    private static void broughtBack() {
        check.sentence("10: A tool is brought back: whether it was OUT");
        EdgeWear x = shop(10, 10);
        check.due("it was not out", false, () -> x.bring(0));
        x.take(0);
        check.due("the other one was not out", false, () -> x.bring(1));
        check.due("it was out", true, () -> x.bring(0));
        check.due("it is back", 0L, () -> x.about(0, 3));
        check.due("it is out no more", false, () -> x.bring(0));
        check.due("it is taken again", 0, () -> x.take(0));
        x.use(0, 2, 0, 0);
        check.due("a worn one comes back", true, () -> x.bring(0));
        check.due("its wear stays", 2L, () -> x.about(0, 0));
    }
}
