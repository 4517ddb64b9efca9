/** Promises 18 to 20: grinding orders, joined and open ones. */
public final class OrdersTest {
    private static final int MIN = Integer.MIN_VALUE;
    private static final int MAX = Integer.MAX_VALUE;

    private static final Check check = new Check();

    public static void main(String[] args) {
        thereIsRoomForSixteen();
        doneOrdersKeepTheirRoom();
        orderRefuses();
        joinedNeedsAnUrgentOne();
        joinedEndsBeforeTheSeventhDay();
        joinedKeepsToItsSort();
        joinedAtTheLastDay();
        joinedRefuses();
        check.end();
    }

    private static EdgeWear shop() {
        EdgeWear x = new EdgeWear(0);
        x.tool(0, 10, 10);
        x.tool(1, 10, 10);
        x.tool(0, 10, 10);
        return x;
    }

    private static void thereIsRoomForSixteen() {
        EdgeWear x = shop();
        for (int i = 0; i < 16; i++) {
            int want = i;
            check.due("open before order " + i, want, x::open);
            check.due("order " + i, true, () -> x.order(0, 10000));
        }
        check.due("a 17th order", false, () -> x.order(0, 10000));
        check.due("open", 16, x::open);
        check.due("a 17th order, wrong day", Check.ARGUMENT, () -> x.order(0, -1));
        check.due("a 17th order, wrong tool", Check.INDEX, () -> x.order(3, -1));
    }

    private static void doneOrdersKeepTheirRoom() {
        EdgeWear x = shop();
        for (int i = 0; i < 16; i++) {
            x.order(0, 0);
        }
        check.due("all are done", 16, () -> x.joined(0, 0));
        check.due("none is open", 0, x::open);
        check.due("done ones count, too", false, () -> x.order(0, 0));
        check.due("done ones are not done again", 0, () -> x.joined(0, 0));
    }

    private static void orderRefuses() {
        EdgeWear x = shop();
        for (int bad : new int[] {-1, 3, 12, MIN, MAX}) {
            check.due("order of tool " + bad, Check.INDEX, () -> x.order(bad, -1));
        }
        for (int bad : new int[] {-1, 10001, MIN, MAX}) {
            check.due("order by day " + bad, Check.ARGUMENT, () -> x.order(0, bad));
        }
        check.due("none came of it", 0, x::open);
        x.grind(0, 1);
        check.due("an order of a barred tool", true, () -> x.order(0, 0));
    }

    private static void joinedNeedsAnUrgentOne() {
        EdgeWear x = shop();
        x.order(0, 12);
        x.order(2, 13);
        check.due("due at day + 2", 0, () -> x.joined(0, 10));
        check.due("none is done", 2, x::open);
        check.due("due before day + 2", 2, () -> x.joined(0, 11));
        check.due("both are done", 0, x::open);
        x.order(0, 1);
        check.due("one that is long due", 1, () -> x.joined(0, 10000));
    }

    private static void joinedEndsBeforeTheSeventhDay() {
        EdgeWear x = shop();
        x.order(2, 17);
        x.order(0, 16);
        x.order(0, 3);
        x.order(2, 11);
        check.due("those before day + 7", 3, () -> x.joined(0, 10));
        check.due("one is open", 1, x::open);
        check.due("it is not urgent", 0, () -> x.joined(0, 15));
        check.due("now it is", 1, () -> x.joined(0, 16));
        check.due("none is open", 0, x::open);
    }

    private static void joinedKeepsToItsSort() {
        EdgeWear x = shop();
        x.order(0, 5);
        x.order(1, 0);
        check.due("the urgent one is of another sort", 0, () -> x.joined(0, 0));
        check.due("a sort without tools", 0, () -> x.joined(3, 0));
        check.due("the other sort", 1, () -> x.joined(1, 0));
        check.due("one is open", 1, x::open);
        check.due("done ones are not urgent", 0, () -> x.joined(0, 0));
        check.due("the last one", 1, () -> x.joined(0, 4));
    }

    private static void joinedAtTheLastDay() {
        EdgeWear x = shop();
        check.due("order at the last day", true, () -> x.order(0, 10000));
        check.due("two days before", 0, () -> x.joined(0, 9998));
        check.due("at the last day", 1, () -> x.joined(0, 10000));
    }

    private static void joinedRefuses() {
        EdgeWear x = shop();
        x.order(0, 0);
        for (int bad : new int[] {-1, 4, MIN, MAX}) {
            check.due("joined of sort " + bad, Check.INDEX, () -> x.joined(bad, -1));
        }
        for (int bad : new int[] {-1, 10001, MIN, MAX}) {
            check.due("joined at day " + bad, Check.ARGUMENT, () -> x.joined(0, bad));
        }
        check.due("none is done", 1, x::open);
    }
}
