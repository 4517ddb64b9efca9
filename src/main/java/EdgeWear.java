/**
 * Tools of a shop: edges that wear, grinding, spares, the best time to change,
 * breaks that hang on a seed, power readings, grinding orders, and chips.
 *
 * <p>Every call looks for its exceptions in the document's order (no such
 * index, a wrong number, a state that forbids it) before it changes anything.
 */
public final class EdgeWear {
    public static final int NONE = -1;
    public static final int BARRED = 1, BLUNT = 2, OUT = 4;

    private static final int TOOLS = 12;
    private static final int SORTS = 4;
    private static final int KINDS = 4;
    private static final int SPEEDS = 4;
    private static final int ORDERS = 16;
    private static final int LIVES = 40;
    private static final int READINGS = 24;

    private static final int MOST = 1000000;
    private static final int MOST_USES = 1000;
    private static final int MOST_WIDE = 1000;
    private static final int LAST_DAY = 10000;
    private static final int LEAST_RUN = 2;
    private static final int MOST_RUN = 12;
    private static final long MOST_LIMIT = 1000000000000L;
    private static final long MOST_WEAR = 1000000000000000L;

    private static final int TOP_BIT = 1 << 19;
    private static final int URGENT_DAYS = 2;
    private static final int JOINED_DAYS = 7;

    private final int seed;
    private final int[] rates;
    private final Sort[] sorts;
    private final Tool[] tools;
    private final Order[] orders;
    private final Rules powerRules;
    private int toolCount;
    private int orderCount;

    public EdgeWear(int seed) {
        this.seed = seed;
        rates = new int[KINDS * SPEEDS];
        for (int i = 0; i < rates.length; i++) {
            rates[i] = 1;
        }
        sorts = new Sort[SORTS];
        for (int i = 0; i < sorts.length; i++) {
            sorts[i] = new Sort(i);
        }
        tools = new Tool[TOOLS];
        orders = new Order[ORDERS];
        powerRules = new Rules();
    }

    public int tool(int sort, int length, int least)
            throws IndexOutOfBoundsException, IllegalArgumentException, IllegalStateException {
        Sort itsSort = sortAt(sort);
        if (length > MOST || least < 0 || least > length) {
            throw new IllegalArgumentException("length is above 1000000, or least is not 0 .. length");
        }
        if (toolCount >= tools.length) {
            throw new IllegalStateException("there are 12 tools");
        }
        int number = toolCount;
        tools[number] = new Tool(itsSort, length, least);
        toolCount = number + 1;
        return number;
    }

    public void rate(int kind, int speed, int v)
            throws IndexOutOfBoundsException, IllegalArgumentException {
        int at = rateIndex(kind, speed);
        if (v < 0 || v > MOST) {
            throw new IllegalArgumentException("rate is not 0 .. 1000000");
        }
        rates[at] = v;
    }

    public void limit(int sort, long v)
            throws IndexOutOfBoundsException, IllegalArgumentException {
        Sort limited = sortAt(sort);
        if (v < 1 || v > MOST_LIMIT) {
            throw new IllegalArgumentException("limit is not 1 .. 10^12");
        }
        limited.wearLimit = v;
    }

    public boolean use(int tool, int metres, int kind, int speed)
            throws IndexOutOfBoundsException, IllegalArgumentException, IllegalStateException {
        Tool used = toolAt(tool);
        int at = rateIndex(kind, speed);
        if (metres < 0 || metres > MOST) {
            throw new IllegalArgumentException("metres are not 0 .. 1000000");
        }
        if (used.barred) {
            throw new IllegalStateException("the tool is barred");
        }
        used.wearBy((long) metres * rates[at]);
        return !used.isBlunt();
    }

    public boolean grind(int tool, int off)
            throws IndexOutOfBoundsException, IllegalArgumentException, IllegalStateException {
        Tool ground = toolAt(tool);
        if (off < 1 || off > MOST) {
            throw new IllegalArgumentException("off is not 1 .. 1000000");
        }
        if (ground.barred) {
            throw new IllegalStateException("the tool is barred");
        }
        return ground.grindOrBar(off);
    }

    public long about(int tool, int what) throws IndexOutOfBoundsException {
        Tool told = toolAt(tool);
        switch (what) {
            case 0:
                return told.wear;
            case 1:
                return told.length;
            case 2:
                return told.sort.number;
            case 3:
                return told.marks();
            case 4:
                return told.uses;
            case 5:
                return told.grindings;
            default:
                throw new IndexOutOfBoundsException("no such what");
        }
    }

    public int spare(int sort) throws IndexOutOfBoundsException {
        int number = sortAt(sort).number;
        int count = 0;
        for (int i = 0; i < tools.length; i++) {
            Tool tool = tools[i];
            if (tool != null && tool.isSpareOf(number)) {
                count++;
            }
        }
        return count;
    }

    public int take(int sort) throws IndexOutOfBoundsException {
        int next = nextSpare(sortAt(sort).number);
        if (next != NONE) {
            toolAt(next).out = true;
        }
        return next;
    }

    public boolean bring(int tool) throws IndexOutOfBoundsException {
        Tool brought = toolAt(tool);
        boolean wasOut = brought.out;
        brought.out = false;
        return wasOut;
    }

    public int life(int sort, int uses)
            throws IndexOutOfBoundsException, IllegalArgumentException, IllegalStateException {
        Sort lived = sortAt(sort);
        if (uses < 1 || uses > MOST_USES) {
            throw new IllegalArgumentException("uses are not 1 .. 1000");
        }
        if (lived.lifeCount >= lived.lives.length) {
            throw new IllegalStateException("there are 40 lives");
        }
        lived.lives[lived.lifeCount] = uses;
        lived.lifeCount++;
        return lived.lifeCount;
    }

    public void cost(int sort, int change, int fail)
            throws IndexOutOfBoundsException, IllegalArgumentException {
        Sort priced = sortAt(sort);
        if (change < 0 || change > MOST || fail < 0 || fail > MOST) {
            throw new IllegalArgumentException("a cost is not 0 .. 1000000");
        }
        priced.changeCost = change;
        priced.failCost = fail;
    }

    public int change(int sort) throws IndexOutOfBoundsException, IllegalStateException {
        Sort lived = sortAt(sort);
        if (lived.lifeCount == 0) {
            throw new IllegalStateException("no lives");
        }
        return lived.bestUses();
    }

    public long changed(int sort, int n, int part)
            throws IndexOutOfBoundsException, IllegalArgumentException, IllegalStateException {
        Sort lived = sortAt(sort);
        if (part != 0 && part != 1) {
            throw new IndexOutOfBoundsException("no such part");
        }
        if (n < 1) {
            throw new IllegalArgumentException("n is below 1");
        }
        // Without lives the greatest is 0, so this refuses both cases.
        if (n > lived.greatestLife()) {
            throw new IllegalStateException("no lives, or n is above the greatest");
        }
        return part == 0 ? lived.costAt(n) : lived.usesAt(n);
    }

    public int breaks(int sort, int k)
            throws IndexOutOfBoundsException, IllegalArgumentException, IllegalStateException {
        Sort lived = sortAt(sort);
        if (k < 0) {
            throw new IllegalArgumentException("k is below 0");
        }
        if (lived.lifeCount == 0) {
            throw new IllegalStateException("no lives");
        }
        int at = (int) ((mixed(sort, k) >>> 1) % lived.lifeCount);
        return lived.lives[at];
    }

    public void rules(int high, int run, int middle, int jump) throws IllegalArgumentException {
        if (high < 0 || high > MOST || middle < 0 || middle > MOST || jump < 0 || jump > MOST) {
            throw new IllegalArgumentException("high, middle or jump is not 0 .. 1000000");
        }
        if (run < LEAST_RUN || run > MOST_RUN) {
            throw new IllegalArgumentException("run is not 2 .. 12");
        }
        powerRules.high = high;
        powerRules.run = run;
        powerRules.middle = middle;
        powerRules.jump = jump;
    }

    public int power(int tool, int minute, int v)
            throws IndexOutOfBoundsException, IllegalArgumentException {
        Readings readings = toolAt(tool).readings;
        if (v < 0 || v > MOST) {
            throw new IllegalArgumentException("reading is not 0 .. 1000000");
        }
        if (minute <= readings.lastMinute) {
            throw new IllegalArgumentException("minute is not above the one before");
        }
        readings.add(minute, v);
        return powerRules.firstThatTells(readings);
    }

    public boolean order(int tool, int day)
            throws IndexOutOfBoundsException, IllegalArgumentException {
        Tool ordered = toolAt(tool);
        if (day < 0 || day > LAST_DAY) {
            throw new IllegalArgumentException("day is not 0 .. 10000");
        }
        if (orderCount >= orders.length) {
            return false;
        }
        orders[orderCount] = new Order(ordered.sort.number, day);
        orderCount++;
        return true;
    }

    public int joined(int sort, int day)
            throws IndexOutOfBoundsException, IllegalArgumentException {
        int number = sortAt(sort).number;
        if (day < 0 || day > LAST_DAY) {
            throw new IllegalArgumentException("day is not 0 .. 10000");
        }
        if (!isAnyDue(number, day + URGENT_DAYS)) {
            return 0;
        }
        return closeDue(number, day + JOINED_DAYS);
    }

    public int open() {
        int count = 0;
        for (int i = 0; i < orders.length; i++) {
            Order order = orders[i];
            if (order != null && !order.done) {
                count++;
            }
        }
        return count;
    }

    public int chip(int feed, int depth, int wide, int end)
            throws IndexOutOfBoundsException, IllegalArgumentException {
        if (end != 0 && end != 1) {
            throw new IndexOutOfBoundsException("no such end");
        }
        if (feed < 0 || feed > MOST) {
            throw new IllegalArgumentException("feed is not 0 .. 1000000");
        }
        if (wide < 1 || wide > MOST_WIDE || depth < 0 || depth > wide) {
            throw new IllegalArgumentException("wide is not 1 .. 1000, or depth is not 0 .. wide");
        }
        long square = 4L * feed * feed * depth * (wide - depth);
        int whole = wholeThickness(square, wide);
        long reached = (long) whole * wide;
        return end == 1 && reached * reached < square ? whole + 1 : whole;
    }

    private Tool toolAt(int number) {
        Tool found = number >= 0 && number < tools.length ? tools[number] : null;
        if (found == null) {
            throw new IndexOutOfBoundsException("no such tool");
        }
        return found;
    }

    private Sort sortAt(int number) {
        Sort found = number >= 0 && number < sorts.length ? sorts[number] : null;
        if (found == null) {
            throw new IndexOutOfBoundsException("no such sort");
        }
        return found;
    }

    private static int rateIndex(int kind, int speed) {
        if (kind < 0 || kind >= KINDS || speed < 0 || speed >= SPEEDS) {
            throw new IndexOutOfBoundsException("no such kind or speed");
        }
        return kind * SPEEDS + speed;
    }

    private int nextSpare(int sort) {
        int next = NONE;
        int shortest = MOST + 1;
        for (int i = 0; i < tools.length; i++) {
            Tool tool = tools[i];
            if (tool != null && tool.isSpareOf(sort) && tool.length < shortest) {
                next = i;
                shortest = tool.length;
            }
        }
        return next;
    }

    private long mixed(int sort, int k) {
        long z = seed + (4L * k + sort + 1) * 0x9E3779B97F4A7C15L;
        z = (z ^ (z >>> 30)) * 0xBF58476D1CE4E5B9L;
        z = (z ^ (z >>> 27)) * 0x94D049BB133111EBL;
        return z ^ (z >>> 31);
    }

    private boolean isAnyDue(int sort, int before) {
        for (int i = 0; i < orders.length; i++) {
            Order order = orders[i];
            if (order != null && order.isDue(sort, before)) {
                return true;
            }
        }
        return false;
    }

    private int closeDue(int sort, int before) {
        int closed = 0;
        for (int i = 0; i < orders.length; i++) {
            Order order = orders[i];
            if (order != null && order.isDue(sort, before)) {
                order.done = true;
                closed++;
            }
        }
        return closed;
    }

    /**
     * The greatest t with (t * wide)^2 at most square, built from its highest
     * bit down. The thickness is never above the feed, so 20 bits hold it, and
     * every product stays far below what a long holds.
     */
    private static int wholeThickness(long square, int wide) {
        int whole = 0;
        for (int bit = TOP_BIT; bit > 0; bit = bit / 2) {
            long side = (long) (whole + bit) * wide;
            if (side * side <= square) {
                whole += bit;
            }
        }
        return whole;
    }

    private static final class Tool {
        final Sort sort;
        final int least;
        final Readings readings;
        int length;
        long wear;
        long uses;
        long grindings;
        boolean barred;
        boolean out;

        Tool(Sort sort, int length, int least) {
            this.sort = sort;
            this.length = length;
            this.least = least;
            readings = new Readings();
        }

        void wearBy(long more) {
            wear = Math.min(wear + more, MOST_WEAR);
            uses++;
        }

        boolean grindOrBar(int off) {
            if (length - off < least) {
                barred = true;
                return false;
            }
            length -= off;
            wear = 0;
            grindings++;
            return true;
        }

        boolean isBlunt() {
            return wear > sort.wearLimit;
        }

        boolean isSpareOf(int ofSort) {
            return sort.number == ofSort && !barred && !out && wear == 0;
        }

        int marks() {
            return (barred ? BARRED : 0) + (isBlunt() ? BLUNT : 0) + (out ? OUT : 0);
        }
    }

    private static final class Sort {
        final int number;
        final int[] lives;
        int lifeCount;
        long wearLimit;
        int changeCost;
        int failCost;

        Sort(int number) {
            this.number = number;
            lives = new int[LIVES];
            wearLimit = 1000000;
            changeCost = 1;
            failCost = 1;
        }

        int greatestLife() {
            int greatest = 0;
            for (int i = 0; i < lifeCount; i++) {
                greatest = Math.max(greatest, lives[i]);
            }
            return greatest;
        }

        long costAt(int n) {
            long cost = 0;
            for (int i = 0; i < lifeCount; i++) {
                cost += lives[i] < n ? failCost : changeCost;
            }
            return cost;
        }

        long usesAt(int n) {
            long uses = 0;
            for (int i = 0; i < lifeCount; i++) {
                uses += Math.min(lives[i], n);
            }
            return uses;
        }

        /**
         * Only lives are tried: between two of them the cost stays while the
         * uses grow, so any other n is no better than the next life above it.
         */
        int bestUses() {
            int best = lives[0];
            for (int i = 1; i < lifeCount; i++) {
                if (isBetter(lives[i], best)) {
                    best = lives[i];
                }
            }
            return best;
        }

        /** Compares the fractions by products, because a division would round. */
        boolean isBetter(int n, int than) {
            long mine = costAt(n) * usesAt(than);
            long other = costAt(than) * usesAt(n);
            return mine < other || (mine == other && n > than);
        }
    }

    private static final class Readings {
        final int[] latestFirst;
        int count;
        int lastMinute;

        Readings() {
            latestFirst = new int[READINGS];
            // The first reading may come at minute 0.
            lastMinute = -1;
        }

        void add(int minute, int v) {
            System.arraycopy(latestFirst, 0, latestFirst, 1, READINGS - 1);
            latestFirst[0] = v;
            count = Math.min(count + 1, READINGS);
            lastMinute = minute;
        }

        boolean isAbove(int high) {
            return latestFirst[0] > high;
        }

        boolean isRising(int run) {
            if (count < run) {
                return false;
            }
            for (int i = 0; i + 1 < run; i++) {
                if (latestFirst[i] <= latestFirst[i + 1]) {
                    return false;
                }
            }
            return true;
        }

        boolean staysAbove(int middle, int run) {
            if (count < run) {
                return false;
            }
            for (int i = 0; i < run; i++) {
                if (latestFirst[i] <= middle) {
                    return false;
                }
            }
            return true;
        }

        boolean isJumping(int jump) {
            return count >= 3 && step(0) + step(1) > jump;
        }

        int step(int back) {
            return Math.abs(latestFirst[back] - latestFirst[back + 1]);
        }
    }

    private static final class Rules {
        int high;
        int run;
        int middle;
        int jump;

        Rules() {
            high = 1000;
            run = 4;
            middle = 500;
            jump = 600;
        }

        int firstThatTells(Readings readings) {
            if (readings.isAbove(high)) {
                return 0;
            }
            if (readings.isRising(run)) {
                return 1;
            }
            if (readings.staysAbove(middle, run)) {
                return 2;
            }
            return readings.isJumping(jump) ? 3 : NONE;
        }
    }

    private static final class Order {
        final int sort;
        final int day;
        boolean done;

        Order(int sort, int day) {
            this.sort = sort;
            this.day = day;
        }

        boolean isDue(int ofSort, int before) {
            return !done && sort == ofSort && day < before;
        }
    }
}
