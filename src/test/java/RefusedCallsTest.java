/**
 * Every call that the document refuses, in the order of its promises. Each is
 * told to a shop of its own, which must then answer as one that was not told it:
 * "A call that throws changes nothing". Of calls with several faults "the
 * exception named first" is due.
 */
public final class RefusedCallsTest {
    private interface Make {
        EdgeWear shop();
    }

    private interface Told {
        void to(EdgeWear x);
    }

    private static final int MIN = Integer.MIN_VALUE;
    private static final int MAX = Integer.MAX_VALUE;
    private static final int MOST_CALLS = 512;
    private static final int MOST_TO_MAKE = 100;

    private static final int[] NO_SORT = {-1, 4, MIN, MAX};
    /** 7 is the first that the working shop does not have. */
    private static final int[] NO_TOOL = {-1, 7, 11, 12, MIN, MAX};
    private static final int[] NOT_TO_A_MILLION = {-1, 1000001, MIN, MAX};
    private static final int[] NO_DAY = {-1, 10001, MIN, MAX};

    private static final Make EMPTY = Shops::empty;
    private static final Make WORKING = Shops::working;
    private static final Make FULL = Shops::full;

    private static final Check check = new Check();
    private static final Seen EMPTY_SEEN = Seen.of(Shops.empty());
    private static final Seen WORKING_SEEN = Seen.of(Shops.working());
    private static final Seen FULL_SEEN = Seen.of(Shops.full());

    public static void main(String[] args) {
        shopsStayWithinTheirCalls();
        tool();
        rate();
        limit();
        use();
        grind();
        about();
        sortsOfSpares();
        bring();
        life();
        cost();
        change();
        changed();
        breaks();
        rules();
        power();
        minutes();
        order();
        joined();
        chip();
        check.end();
    }

    private static void shopsStayWithinTheirCalls() {
        check.same("calls of Seen are few enough", "true",
                String.valueOf(WORKING_SEEN.size() + 1 + MOST_TO_MAKE <= MOST_CALLS));
    }

    private static void refused(Make make, String want, String call, Told told) {
        EdgeWear x = make.shop();
        check.same(call, want, Check.did(() -> told.to(x)));
        Seen before = make == EMPTY ? EMPTY_SEEN : make == FULL ? FULL_SEEN : WORKING_SEEN;
        Seen.of(x).compare("after " + call, before, check);
    }

    private static void index(String call, Told told) {
        refused(WORKING, Check.INDEX, call, told);
    }

    private static void argument(String call, Told told) {
        refused(WORKING, Check.ARGUMENT, call, told);
    }

    private static void tool() {
        check.sentence("2: IndexOutOfBoundsException: no such sort");
        for (int bad : NO_SORT) {
            index("tool(" + bad + ", 5, 5)", x -> x.tool(bad, 5, 5));
        }
        check.sentence("2: IllegalArgumentException: LEAST is not 0 .. LENGTH");
        argument("tool(0, 10, -1)", x -> x.tool(0, 10, -1));
        argument("tool(0, 10, 11)", x -> x.tool(0, 10, 11));
        argument("tool(0, 0, 1)", x -> x.tool(0, 0, 1));
        argument("tool(0, 10, MIN)", x -> x.tool(0, 10, MIN));
        argument("tool(0, 10, MAX)", x -> x.tool(0, 10, MAX));
        for (int bad : new int[] {-1, MIN}) {
            argument("tool(0, " + bad + ", 0)", x -> x.tool(0, bad, 0));
            argument("tool(0, " + bad + ", " + bad + ")", x -> x.tool(0, bad, bad));
        }
        check.sentence("2: or LENGTH above 1000000");
        for (int bad : new int[] {1000001, MAX}) {
            argument("tool(0, " + bad + ", 0)", x -> x.tool(0, bad, 0));
            argument("tool(0, " + bad + ", " + bad + ")", x -> x.tool(0, bad, bad));
        }
        check.sentence("2: IllegalStateException: there are 12");
        refused(FULL, Check.STATE, "a 13th tool", x -> x.tool(0, 10, 10));
        refused(FULL, Check.STATE, "a 13th tool of sort 3", x -> x.tool(3, 0, 0));
        check.sentence("2: of several exceptions the one named first is thrown");
        index("tool(4, 5, 6)", x -> x.tool(4, 5, 6));
        refused(FULL, Check.INDEX, "a 13th tool(4, 5, 5)", x -> x.tool(4, 5, 5));
        refused(FULL, Check.INDEX, "a 13th tool(4, 5, 6)", x -> x.tool(4, 5, 6));
        refused(FULL, Check.ARGUMENT, "a 13th tool(0, 5, 6)", x -> x.tool(0, 5, 6));
    }

    private static void rate() {
        check.sentence("3: IndexOutOfBoundsException: no such kind, speed");
        for (int bad : NO_SORT) {
            index("rate(" + bad + ", 0, 5)", x -> x.rate(bad, 0, 5));
            index("rate(0, " + bad + ", 5)", x -> x.rate(0, bad, 5));
        }
        // As one index of a row of 16 these would be good ones.
        index("rate(-1, 4, 5)", x -> x.rate(-1, 4, 5));
        index("rate(4, -1, 5)", x -> x.rate(4, -1, 5));
        index("rate(1, 8, 5)", x -> x.rate(1, 8, 5));
        check.sentence("3: IllegalArgumentException: v is not 0 .. 1000000");
        for (int bad : NOT_TO_A_MILLION) {
            argument("rate(3, 3, " + bad + ")", x -> x.rate(3, 3, bad));
        }
        check.sentence("3: of several exceptions the one named first is thrown");
        index("rate(4, 0, -1)", x -> x.rate(4, 0, -1));
        index("rate(0, 4, 1000001)", x -> x.rate(0, 4, 1000001));
    }

    private static void limit() {
        check.sentence("4: IndexOutOfBoundsException");
        for (int bad : NO_SORT) {
            index("limit(" + bad + ", 5)", x -> x.limit(bad, 5));
        }
        check.sentence("4: IllegalArgumentException: v is not 1 .. 10^12");
        // The last one is 1 if only its lower half is looked at.
        for (long bad : new long[] {0, -1, 1000000000001L, Long.MIN_VALUE, Long.MAX_VALUE,
            (1L << 62) + 1}) {
            argument("limit(0, " + bad + ")", x -> x.limit(0, bad));
        }
        check.sentence("4: of several exceptions the one named first is thrown");
        index("limit(4, 0)", x -> x.limit(4, 0));
    }

    private static void use() {
        check.sentence("5: IndexOutOfBoundsException: no such tool, kind, speed");
        refused(EMPTY, Check.INDEX, "use(0, 1, 0, 0) without tools", x -> x.use(0, 1, 0, 0));
        refused(FULL, Check.INDEX, "use(12, 1, 0, 0)", x -> x.use(12, 1, 0, 0));
        for (int bad : NO_TOOL) {
            index("use(" + bad + ", 1, 0, 0)", x -> x.use(bad, 1, 0, 0));
        }
        for (int bad : NO_SORT) {
            index("use(0, 1, " + bad + ", 0)", x -> x.use(0, 1, bad, 0));
            index("use(0, 1, 0, " + bad + ")", x -> x.use(0, 1, 0, bad));
        }
        index("use(0, 1, -1, 4)", x -> x.use(0, 1, -1, 4));
        index("use(0, 1, 4, -1)", x -> x.use(0, 1, 4, -1));
        check.sentence("5: IllegalArgumentException: metres are not 0 .. 1000000");
        for (int bad : NOT_TO_A_MILLION) {
            argument("use(0, " + bad + ", 0, 0)", x -> x.use(0, bad, 0, 0));
        }
        check.sentence("5: IllegalStateException: it is BARRED");
        refused(WORKING, Check.STATE, "use(6, 1, 0, 0)", x -> x.use(6, 1, 0, 0));
        refused(FULL, Check.STATE, "use(1, 0, 3, 3)", x -> x.use(1, 0, 3, 3));
        check.sentence("5: of several exceptions the one named first is thrown");
        index("use(7, -1, 0, 0)", x -> x.use(7, -1, 0, 0));
        index("use(0, -1, 4, 0)", x -> x.use(0, -1, 4, 0));
        index("use(0, 1000001, 0, -1)", x -> x.use(0, 1000001, 0, -1));
        index("use(6, 1, 4, 0)", x -> x.use(6, 1, 4, 0));
        index("use(6, -1, 0, 4)", x -> x.use(6, -1, 0, 4));
        argument("use(6, -1, 0, 0)", x -> x.use(6, -1, 0, 0));
        argument("use(6, 1000001, 0, 0)", x -> x.use(6, 1000001, 0, 0));
    }

    private static void grind() {
        check.sentence("6: IndexOutOfBoundsException");
        refused(EMPTY, Check.INDEX, "grind(0, 1) without tools", x -> x.grind(0, 1));
        refused(FULL, Check.INDEX, "grind(12, 1)", x -> x.grind(12, 1));
        for (int bad : NO_TOOL) {
            index("grind(" + bad + ", 1)", x -> x.grind(bad, 1));
        }
        check.sentence("6: IllegalArgumentException: off is not 1 .. 1000000");
        for (int bad : new int[] {0, -1, 1000001, MIN, MAX}) {
            argument("grind(0, " + bad + ")", x -> x.grind(0, bad));
        }
        check.sentence("6: IllegalStateException: it was BARRED");
        refused(WORKING, Check.STATE, "grind(6, 1)", x -> x.grind(6, 1));
        refused(FULL, Check.STATE, "grind(1, 1)", x -> x.grind(1, 1));
        check.sentence("6: of several exceptions the one named first is thrown");
        index("grind(7, 0)", x -> x.grind(7, 0));
        argument("grind(6, 0)", x -> x.grind(6, 0));
        argument("grind(6, 1000001)", x -> x.grind(6, 1000001));
    }

    private static void about() {
        check.sentence("7: IndexOutOfBoundsException: there is no such tool, sort, kind, speed, what");
        refused(EMPTY, Check.INDEX, "about(0, 0) without tools", x -> x.about(0, 0));
        refused(FULL, Check.INDEX, "about(12, 0)", x -> x.about(12, 0));
        for (int bad : NO_TOOL) {
            index("about(" + bad + ", 0)", x -> x.about(bad, 0));
        }
        for (int bad : new int[] {-1, 6, MIN, MAX}) {
            index("about(0, " + bad + ")", x -> x.about(0, bad));
        }
    }

    private static void sortsOfSpares() {
        check.sentence("8: IndexOutOfBoundsException");
        for (int bad : NO_SORT) {
            index("spare(" + bad + ")", x -> x.spare(bad));
        }
        check.sentence("9: IndexOutOfBoundsException");
        for (int bad : NO_SORT) {
            index("take(" + bad + ")", x -> x.take(bad));
        }
    }

    private static void bring() {
        check.sentence("10: IndexOutOfBoundsException");
        refused(EMPTY, Check.INDEX, "bring(0) without tools", x -> x.bring(0));
        refused(FULL, Check.INDEX, "bring(12)", x -> x.bring(12));
        for (int bad : NO_TOOL) {
            index("bring(" + bad + ")", x -> x.bring(bad));
        }
    }

    private static void life() {
        check.sentence("11: IndexOutOfBoundsException");
        for (int bad : NO_SORT) {
            index("life(" + bad + ", 1)", x -> x.life(bad, 1));
        }
        check.sentence("11: IllegalArgumentException: uses are not 1 .. 1000");
        for (int bad : new int[] {0, -1, 1001, MIN, MAX}) {
            argument("life(0, " + bad + ")", x -> x.life(0, bad));
            refused(EMPTY, Check.ARGUMENT, "a first life(0, " + bad + ")", x -> x.life(0, bad));
        }
        check.sentence("11: IllegalStateException: there are 40");
        refused(FULL, Check.STATE, "a 41st life(0, 1)", x -> x.life(0, 1));
        refused(FULL, Check.STATE, "a 41st life(0, 1000)", x -> x.life(0, 1000));
        check.sentence("11: of several exceptions the one named first is thrown");
        index("life(4, 0)", x -> x.life(4, 0));
        refused(FULL, Check.ARGUMENT, "a 41st life(0, 0)", x -> x.life(0, 0));
        refused(FULL, Check.ARGUMENT, "a 41st life(0, 1001)", x -> x.life(0, 1001));
    }

    private static void cost() {
        check.sentence("12: IndexOutOfBoundsException");
        for (int bad : NO_SORT) {
            index("cost(" + bad + ", 1, 1)", x -> x.cost(bad, 1, 1));
        }
        check.sentence("12: IllegalArgumentException: one is not 0 .. 1000000");
        for (int bad : NOT_TO_A_MILLION) {
            argument("cost(0, " + bad + ", 1)", x -> x.cost(0, bad, 1));
            argument("cost(0, 1, " + bad + ")", x -> x.cost(0, 1, bad));
        }
        // Their sum is a good one.
        argument("cost(0, -1, 2)", x -> x.cost(0, -1, 2));
        check.sentence("12: of several exceptions the one named first is thrown");
        index("cost(4, -1, 1)", x -> x.cost(4, -1, 1));
        index("cost(4, 1, -1)", x -> x.cost(4, 1, -1));
    }

    private static void change() {
        check.sentence("13: IndexOutOfBoundsException");
        for (int bad : NO_SORT) {
            index("change(" + bad + ")", x -> x.change(bad));
        }
        check.sentence("13: IllegalStateException: no LIVES");
        refused(EMPTY, Check.STATE, "change(0)", x -> x.change(0));
        refused(WORKING, Check.STATE, "change(2)", x -> x.change(2));
        refused(FULL, Check.STATE, "change(3)", x -> x.change(3));
    }

    private static void changed() {
        check.sentence("14: IndexOutOfBoundsException: no such sort, part");
        for (int bad : NO_SORT) {
            index("changed(" + bad + ", 1, 0)", x -> x.changed(bad, 1, 0));
        }
        for (int bad : new int[] {-1, 2, MIN, MAX}) {
            index("changed(0, 1, " + bad + ")", x -> x.changed(0, 1, bad));
        }
        check.sentence("14: IllegalArgumentException: n is below 1");
        for (int bad : new int[] {0, -1, MIN}) {
            argument("changed(0, " + bad + ", 0)", x -> x.changed(0, bad, 0));
            argument("changed(0, " + bad + ", 1)", x -> x.changed(0, bad, 1));
        }
        check.sentence("14: IllegalStateException: no LIVES");
        refused(EMPTY, Check.STATE, "changed(0, 1, 0)", x -> x.changed(0, 1, 0));
        refused(WORKING, Check.STATE, "changed(2, 1, 1)", x -> x.changed(2, 1, 1));
        check.sentence("14: or n is above the greatest");
        for (int bad : new int[] {9, 1000, MAX}) {
            refused(WORKING, Check.STATE, "changed(0, " + bad + ", 0)", x -> x.changed(0, bad, 0));
            refused(WORKING, Check.STATE, "changed(0, " + bad + ", 1)", x -> x.changed(0, bad, 1));
        }
        refused(FULL, Check.STATE, "changed(0, 41, 0)", x -> x.changed(0, 41, 0));
        check.sentence("14: of several exceptions the one named first is thrown");
        index("changed(4, 0, 0)", x -> x.changed(4, 0, 0));
        index("changed(0, 0, 2)", x -> x.changed(0, 0, 2));
        index("changed(0, 9, 2)", x -> x.changed(0, 9, 2));
        index("changed(2, 1, 2)", x -> x.changed(2, 1, 2));
        argument("changed(2, 0, 0)", x -> x.changed(2, 0, 0));
    }

    private static void breaks() {
        check.sentence("15: IndexOutOfBoundsException");
        for (int bad : NO_SORT) {
            index("breaks(" + bad + ", 0)", x -> x.breaks(bad, 0));
        }
        check.sentence("15: IllegalArgumentException: k is below 0");
        argument("breaks(0, -1)", x -> x.breaks(0, -1));
        argument("breaks(0, MIN)", x -> x.breaks(0, MIN));
        check.sentence("15: IllegalStateException: no LIVES");
        refused(EMPTY, Check.STATE, "breaks(0, 0)", x -> x.breaks(0, 0));
        refused(WORKING, Check.STATE, "breaks(2, MAX)", x -> x.breaks(2, MAX));
        check.sentence("15: of several exceptions the one named first is thrown");
        index("breaks(4, -1)", x -> x.breaks(4, -1));
        argument("breaks(2, -1)", x -> x.breaks(2, -1));
    }

    private static void rules() {
        check.sentence("16: IllegalArgumentException: high, middle or jump is not 0 .. 1000000");
        for (int bad : NOT_TO_A_MILLION) {
            argument("rules(" + bad + ", 4, 5, 6)", x -> x.rules(bad, 4, 5, 6));
            argument("rules(5, 4, " + bad + ", 6)", x -> x.rules(5, 4, bad, 6));
            argument("rules(5, 4, 5, " + bad + ")", x -> x.rules(5, 4, 5, bad));
        }
        check.sentence("16: or run not 2 .. 12");
        for (int bad : new int[] {1, 0, -1, 13, MIN, MAX}) {
            argument("rules(5, " + bad + ", 5, 6)", x -> x.rules(5, bad, 5, 6));
        }
    }

    private static void power() {
        check.sentence("17: IndexOutOfBoundsException");
        refused(EMPTY, Check.INDEX, "power(0, 0, 0) without tools", x -> x.power(0, 0, 0));
        refused(FULL, Check.INDEX, "power(12, 0, 0)", x -> x.power(12, 0, 0));
        for (int bad : NO_TOOL) {
            index("power(" + bad + ", 9, 1)", x -> x.power(bad, 9, 1));
        }
        check.sentence("17: IllegalArgumentException: v is not 0 .. 1000000");
        for (int bad : NOT_TO_A_MILLION) {
            argument("power(0, 20, " + bad + ")", x -> x.power(0, 20, bad));
            argument("power(1, 20, " + bad + ")", x -> x.power(1, 20, bad));
        }
        check.sentence("17: of several exceptions the one named first is thrown");
        index("power(7, 9, -1)", x -> x.power(7, 9, -1));
        index("power(7, -1, 1)", x -> x.power(7, -1, 1));
        index("power(12, -1, -1)", x -> x.power(12, -1, -1));
    }

    private static void minutes() {
        check.sentence("17: or minute not above the one before");
        for (int bad : new int[] {5, 4, 0, -1, MIN}) {
            argument("power(0, " + bad + ", 49)", x -> x.power(0, bad, 49));
        }
        refused(FULL, Check.ARGUMENT, "power(2, MAX, 1)", x -> x.power(2, MAX, 1));
        refused(FULL, Check.ARGUMENT, "power(2, MIN, 1)", x -> x.power(2, MIN, 1));
        check.sentence("17: (at least 0)");
        argument("a first power(1, -1, 1)", x -> x.power(1, -1, 1));
        argument("a first power(1, MIN, 1)", x -> x.power(1, MIN, 1));
    }

    private static void order() {
        check.sentence("18: IndexOutOfBoundsException");
        refused(EMPTY, Check.INDEX, "order(0, 0) without tools", x -> x.order(0, 0));
        refused(FULL, Check.INDEX, "order(12, 0)", x -> x.order(12, 0));
        for (int bad : NO_TOOL) {
            index("order(" + bad + ", 1)", x -> x.order(bad, 1));
        }
        check.sentence("18: IllegalArgumentException: day is not 0 .. 10000");
        for (int bad : NO_DAY) {
            argument("order(0, " + bad + ")", x -> x.order(0, bad));
            refused(FULL, Check.ARGUMENT, "a 17th order(0, " + bad + ")", x -> x.order(0, bad));
        }
        check.sentence("18: of several exceptions the one named first is thrown");
        index("order(7, -1)", x -> x.order(7, -1));
    }

    private static void joined() {
        check.sentence("19: IndexOutOfBoundsException");
        for (int bad : NO_SORT) {
            index("joined(" + bad + ", 1)", x -> x.joined(bad, 1));
        }
        check.sentence("19: IllegalArgumentException: day is not 0 .. 10000");
        for (int bad : NO_DAY) {
            argument("joined(0, " + bad + ")", x -> x.joined(0, bad));
            refused(FULL, Check.ARGUMENT, "joined(0, " + bad + ") of many", x -> x.joined(0, bad));
        }
        check.sentence("19: of several exceptions the one named first is thrown");
        index("joined(4, -1)", x -> x.joined(4, -1));
        index("joined(-1, 10001)", x -> x.joined(-1, 10001));
    }

    private static void chip() {
        check.sentence("21: IndexOutOfBoundsException: another end");
        for (int bad : new int[] {-1, 2, MIN, MAX}) {
            index("chip(1, 1, 2, " + bad + ")", x -> x.chip(1, 1, 2, bad));
        }
        check.sentence("21: IllegalArgumentException: feed is not 0 .. 1000000");
        for (int bad : NOT_TO_A_MILLION) {
            argument("chip(" + bad + ", 1, 2, 0)", x -> x.chip(bad, 1, 2, 0));
            argument("chip(" + bad + ", 0, 1, 1)", x -> x.chip(bad, 0, 1, 1));
        }
        check.sentence("21: wide not 1 .. 1000");
        for (int bad : new int[] {0, -1, 1001, MIN, MAX}) {
            argument("chip(1, 0, " + bad + ", 0)", x -> x.chip(1, 0, bad, 0));
            argument("chip(1, " + bad + ", " + bad + ", 1)", x -> x.chip(1, bad, bad, 1));
        }
        check.sentence("21: or depth not 0 .. wide");
        for (int bad : new int[] {-1, 6, 1000, MIN, MAX}) {
            argument("chip(1, " + bad + ", 5, 1)", x -> x.chip(1, bad, 5, 1));
        }
        argument("chip(1, 2, 1, 0)", x -> x.chip(1, 2, 1, 0));
        argument("chip(1, 1001, 1000, 0)", x -> x.chip(1, 1001, 1000, 0));
        check.sentence("21: of several exceptions the one named first is thrown");
        index("chip(-1, 1, 2, 2)", x -> x.chip(-1, 1, 2, 2));
        index("chip(1, 1, 0, -1)", x -> x.chip(1, 1, 0, -1));
        index("chip(1, 3, 2, 2)", x -> x.chip(1, 3, 2, 2));
    }
}
