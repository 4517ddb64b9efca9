/** Promises 18 to 20: grinding orders, joined and open ones. RefusedCallsTest has what they refuse. */
public final class OrdersTest {
    private static final Check check = new Check();

    public static void main(String[] args) {
        sixteenInAll();
        doneOrdersCountToo();
        firstAndLastDayOfAnOrder();
        ordersOfAnyTool();
        beforeDayAndSeven();
        beforeDayAndTwo();
        allOfThemAreDone();
        elseNone();
        ofItsTools();
        thatAreOpen();
        firstAndLastDayOfJoining();
        howManyAreDone();
        howManyAreOpen();
        check.end();
    }

    /** Tools 0 and 2 are of sort 0, tool 1 is of sort 1. */
    private static EdgeWear shop() {
        EdgeWear x = new EdgeWear(0);
        x.tool(0, 10, 10);
        x.tool(1, 10, 10);
        x.tool(0, 10, 10);
        return x;
    }

    private static EdgeWear shop(int... days) {
        EdgeWear x = shop();
        for (int day : days) {
            x.order(0, day);
        }
        return x;
    }

    private static void sixteenInAll() {
        check.sentence("ORDERS, 16 in all");
        EdgeWear x = shop();
        for (int i = 0; i < 16; i++) {
            int tool = i % 3;
            check.due("order " + (i + 1), true, () -> x.order(tool, 10000));
        }
        for (int i = 0; i < 3; i++) {
            int tool = i;
            check.due("a 17th order, of tool " + tool, false, () -> x.order(tool, 0));
        }
        check.due("open", 16, x::open);
        check.due("the 17th is not due", 0, () -> x.joined(0, 0));
        check.due("a 17th order, wrong day", Check.ARGUMENT, () -> x.order(0, -1));
        check.due("a 17th order, wrong tool", Check.INDEX, () -> x.order(3, 0));
    }

    private static void doneOrdersCountToo() {
        check.sentence("(those done count, too)");
        EdgeWear x = shop(0, 0, 0, 0, 0, 0, 0, 0);
        check.due("eight are done", 8, () -> x.joined(0, 0));
        for (int i = 0; i < 8; i++) {
            check.due("order " + (9 + i), true, () -> x.order(0, 0));
        }
        check.due("a 17th order", false, () -> x.order(0, 0));
        check.due("eight more are done", 8, () -> x.joined(0, 0));
        check.due("all are done", 0, x::open);
        check.due("a 17th order when all are done", false, () -> x.order(0, 0));
        check.due("it is not open", 0, x::open);
    }

    private static void firstAndLastDayOfAnOrder() {
        check.sentence("18: day is not 0 .. 10000");
        EdgeWear x = shop();
        check.due("day 0", true, () -> x.order(0, 0));
        check.due("day 10000", true, () -> x.order(0, 10000));
        check.due("day -1", Check.ARGUMENT, () -> x.order(0, -1));
        check.due("day 10001", Check.ARGUMENT, () -> x.order(0, 10001));
        check.due("two are open", 2, x::open);
    }

    private static void ordersOfAnyTool() {
        check.sentence("to grind a tool by a DAY 0 .. 10000");
        EdgeWear x = shop();
        check.due("an order", true, () -> x.order(0, 5));
        check.due("the same again", true, () -> x.order(0, 5));
        x.grind(2, 1);
        check.due("of a barred tool", true, () -> x.order(2, 5));
        check.due("of a tool that is not there", Check.INDEX, () -> x.order(3, 5));
        check.due("open", 3, x::open);
    }

    private static void beforeDayAndSeven() {
        check.sentence("of the ORDERS of its tools that are open, those due before day + 7");
        EdgeWear x = shop(10, 16, 17);
        check.due("days 10 and 16", 2, () -> x.joined(0, 10));
        check.due("day 17 is open", 1, x::open);
        EdgeWear y = shop(10, 16, 17);
        check.due("all at day 11", 3, () -> y.joined(0, 11));
    }

    private static void beforeDayAndTwo() {
        check.sentence("if one of them is due before day + 2");
        EdgeWear x = shop(12);
        check.due("due in two days", 0, () -> x.joined(0, 10));
        check.due("due in a day", 1, () -> x.joined(0, 11));
        check.due("due today", 1, () -> shop(12).joined(0, 12));
        check.due("due yesterday", 1, () -> shop(12).joined(0, 13));
        check.due("long due", 1, () -> shop(0).joined(0, 10000));
    }

    private static void allOfThemAreDone() {
        check.sentence("all of them are done (closed)");
        EdgeWear x = shop(16, 3, 11, 17, 12, 16);
        x.order(2, 14);
        check.due("before and behind the one that is due", 6, () -> x.joined(0, 10));
        check.due("one is open", 1, x::open);
        check.due("it alone is left", 1, () -> x.joined(0, 17));
    }

    private static void elseNone() {
        check.sentence("else none");
        EdgeWear x = shop(12, 13, 16);
        check.due("none", 0, () -> x.joined(0, 10));
        check.due("all are open", 3, x::open);
        check.due("none again", 0, () -> x.joined(0, 0));
        check.due("all are open still", 3, x::open);
        check.due("without orders", 0, () -> shop().joined(0, 0));
        check.due("without tools", 0, () -> new EdgeWear(0).joined(3, 10000));
    }

    private static void ofItsTools() {
        check.sentence("JOINED on a day for a SORT");
        EdgeWear x = shop(5);
        x.order(1, 0);
        check.due("the one that is due is of another sort", 0, () -> x.joined(0, 0));
        check.due("sorts without tools", 0, () -> x.joined(2, 0) + x.joined(3, 10000));
        check.due("both are open", 2, x::open);
        x.order(2, 0);
        check.due("another tool of the sort", 2, () -> x.joined(0, 0));
        check.due("the other sort's is open", 1, x::open);
        check.due("the other sort", 1, () -> x.joined(1, 0));
    }

    private static void thatAreOpen() {
        check.sentence("of the ORDERS of its tools that are open");
        EdgeWear x = shop(0);
        check.due("done", 1, () -> x.joined(0, 0));
        check.due("not done again", 0, () -> x.joined(0, 0));
        x.order(0, 5);
        check.due("a done one makes nothing due", 0, () -> x.joined(0, 0));
        check.due("one is open", 1, x::open);
        x.order(0, 1);
        check.due("an open one does", 2, () -> x.joined(0, 0));
    }

    private static void firstAndLastDayOfJoining() {
        check.sentence("19: day is not 0 .. 10000");
        EdgeWear x = shop(1, 6, 7, 10000);
        check.due("day -1", Check.ARGUMENT, () -> x.joined(0, -1));
        check.due("day 10001", Check.ARGUMENT, () -> x.joined(0, 10001));
        check.due("none is done", 4, x::open);
        check.due("day 0", 2, () -> x.joined(0, 0));
        check.due("day 10000", 2, () -> x.joined(0, 10000));
        EdgeWear y = shop(10000);
        check.due("day 9998", 0, () -> y.joined(0, 9998));
        check.due("day 9999", 1, () -> y.joined(0, 9999));
    }

    private static void howManyAreDone() {
        check.sentence("19: how many ORDERS are done");
        EdgeWear x = shop(0, 0, 0, 0, 0, 0, 0, 0, 0, 0, 0, 0, 0, 0, 0, 0);
        check.due("16", 16, () -> x.joined(0, 0));
        check.due("none is left", 0, () -> x.joined(0, 0));
    }

    private static void howManyAreOpen() {
        check.sentence("20: How many ORDERS are open");
        EdgeWear x = shop();
        for (int i = 0; i <= 16; i++) {
            check.due("open after " + i + " orders", i, x::open);
            x.order(0, i);
        }
        check.due("open when there is no room", 16, x::open);
        x.joined(0, 0);
        check.due("open after the first 7 days", 9, x::open);
    }
}
