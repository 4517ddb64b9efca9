import java.util.Random;

/** Promises 2 to 20 in mixed runs of 512 calls, each answer beside that of PlainShop. */
public final class RandomRunsTest {
    private static final int RUNS = 400;
    private static final int CALLS = 512;
    private static final int[] EDGES = {
        -1, 0, 1, 2, 12, 13, 1000, 1001, 10000, 10001, 1000000, 1000001,
        Integer.MIN_VALUE, Integer.MAX_VALUE};

    private final Check check;
    private final Random random;
    private final EdgeWear x;
    private final PlainShop plain;
    private final int run;
    /** Small numbers meet more often; great ones reach the edges. */
    private final int span;
    private int minute;

    private RandomRunsTest(Check check, int run) {
        this.check = check;
        this.run = run;
        random = new Random(run);
        int seed = random.nextInt();
        x = new EdgeWear(seed);
        plain = new PlainShop(seed);
        span = run % 3 == 0 ? 6 : run % 3 == 1 ? 1000 : 1000000;
    }

    public static void main(String[] args) {
        Check check = new Check();
        for (int run = 0; run < RUNS; run++) {
            RandomRunsTest one = new RandomRunsTest(check, run);
            for (int i = 0; i < CALLS; i++) {
                one.call();
            }
        }
        check.end();
    }

    private boolean rarely() {
        return random.nextInt(40) == 0;
    }

    private int below(int bound) {
        return rarely() ? EDGES[random.nextInt(EDGES.length)] : random.nextInt(bound);
    }

    private int sort() {
        return below(4);
    }

    private int number() {
        return below(span + 1);
    }

    private void both(String call, Check.Call want, Check.Call got) {
        check.same("run " + run + ": " + call, Check.answer(want), Check.answer(got));
    }

    private void bothDo(String call, Runnable want, Runnable got) {
        check.same("run " + run + ": " + call, Check.did(want), Check.did(got));
    }

    private void call() {
        int which = random.nextInt(20);
        if (which < 10) {
            callOfTools(which);
        } else {
            callOfTheRest(which);
        }
    }

    private void callOfTools(int which) {
        int tool = below(13);
        int sort = sort();
        int a = number();
        int b = number();
        int kind = sort();
        int speed = sort();
        switch (which) {
            case 0 -> both("tool", () -> plain.tool(sort, a, b / 2), () -> x.tool(sort, a, b / 2));
            case 1 -> bothDo("rate", () -> plain.rate(kind, speed, a), () -> x.rate(kind, speed, a));
            case 2 -> {
                long v = (long) a * (rarely() ? 1000001 : 1 + random.nextInt(1000));
                bothDo("limit", () -> plain.limit(sort, v), () -> x.limit(sort, v));
            }
            case 3 -> both("use", () -> plain.use(tool, a, kind, speed), () -> x.use(tool, a, kind, speed));
            case 4 -> {
                int off = 1 + a / 20;
                both("grind", () -> plain.grind(tool, off), () -> x.grind(tool, off));
            }
            case 5, 6 -> {
                int what = below(6);
                both("about", () -> plain.about(tool, what), () -> x.about(tool, what));
            }
            case 7 -> both("spare", () -> plain.spare(sort), () -> x.spare(sort));
            case 8 -> both("take", () -> plain.take(sort), () -> x.take(sort));
            default -> both("bring", () -> plain.bring(tool), () -> x.bring(tool));
        }
    }

    private void callOfTheRest(int which) {
        int tool = below(13);
        int sort = sort();
        int a = number();
        int b = number();
        int day = below(30);
        switch (which) {
            case 10 -> {
                int uses = 1 + below(Math.min(span, 1000));
                both("life", () -> plain.life(sort, uses), () -> x.life(sort, uses));
            }
            case 11 -> bothDo("cost", () -> plain.cost(sort, a, b), () -> x.cost(sort, a, b));
            case 12 -> both("change", () -> plain.change(sort), () -> x.change(sort));
            case 13 -> {
                int n = below(Math.min(span, 1000));
                int part = below(2);
                both("changed", () -> plain.changed(sort, n, part), () -> x.changed(sort, n, part));
            }
            case 14 -> {
                int k = random.nextInt() >>> random.nextInt(32);
                both("breaks", () -> plain.breaks(sort, k), () -> x.breaks(sort, k));
            }
            case 15 -> {
                int run = below(5);
                int jump = number();
                bothDo("rules", () -> plain.rules(a, run, b, jump), () -> x.rules(a, run, b, jump));
            }
            case 16 -> {
                minute += random.nextInt(5) - 1;
                both("power", () -> plain.power(tool, minute, a), () -> x.power(tool, minute, a));
            }
            case 17 -> both("order", () -> plain.order(tool, day), () -> x.order(tool, day));
            case 18 -> both("joined", () -> plain.joined(sort, day), () -> x.joined(sort, day));
            default -> both("open", plain::open, x::open);
        }
    }
}
