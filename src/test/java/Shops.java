/** Shops in the states that a call can meet: nothing there yet, in work, no room left. */
final class Shops {
    private Shops() {
    }

    static EdgeWear empty() {
        return new EdgeWear(7);
    }

    /** Everything differs from what it is at first, and nothing is full. */
    static EdgeWear working() {
        EdgeWear x = new EdgeWear(7);
        int[][] tools = {{0, 100, 40}, {1, 90, 40}, {2, 50, 48}, {3, 60, 60}, {0, 100, 40},
            {0, 80, 40}, {1, 30, 30}};
        for (int[] row : tools) {
            x.tool(row[0], row[1], row[2]);
        }
        for (int i = 0; i < 16; i++) {
            x.rate(i / 4, i % 4, 2 + i);
        }
        for (int sort = 0; sort < 4; sort++) {
            x.limit(sort, 200 + sort);
        }
        x.use(0, 2, 0, 0);
        x.use(1, 50, 1, 1);
        x.grind(6, 1);
        x.take(0);
        for (int uses : new int[] {3, 5, 8}) {
            x.life(0, uses);
        }
        x.life(1, 9);
        x.cost(0, 3, 7);
        x.cost(1, 2, 2);
        x.rules(50, 3, 20, 30);
        x.power(0, 0, 10);
        x.power(0, 5, 11);
        x.order(0, 3);
        x.order(4, 8);
        x.order(1, 2);
        x.joined(1, 1);
        return x;
    }

    /** 12 tools, 40 lives of sort 0, 16 orders; tool 1 is barred, and tool 2 is read at the last minute. */
    static EdgeWear full() {
        EdgeWear x = new EdgeWear(7);
        for (int i = 0; i < 12; i++) {
            x.tool(i % 4, 10, 9);
        }
        for (int i = 0; i < 40; i++) {
            x.life(0, 1 + i);
        }
        for (int i = 0; i < 16; i++) {
            x.order(i % 12, i);
        }
        x.use(1, 3, 0, 0);
        x.grind(1, 2);
        x.power(2, Integer.MAX_VALUE, 1);
        return x;
    }
}
