import java.util.ArrayList;
import java.util.List;

/**
 * All that can be seen of an object, by a fixed row of calls. Rates, limits,
 * rules, readings and orders show only in what later calls answer, so the row
 * changes the object: it is of no use afterwards.
 */
final class Seen {
    /**
     * They pass each rule's number, of the first rules and of those in Shops,
     * where minute 6 is the next one: a third reading that rises.
     */
    private static final int[] READINGS = {
        1000, 1001, 1000, 999, 501, 501, 12, 500, 501, 0, 1, 2, 3, 300, 0, 300, 601,
        51, 50, 49, 21, 21, 21, 20, 0, 15, 0, 16, 1, 2, 3, 4};
    private static final int[] DAYS = {0, 2, 7, 9999, 10000};

    private final EdgeWear x;
    private final List<String> calls = new ArrayList<>();
    private final List<String> answers = new ArrayList<>();

    private Seen(EdgeWear x) {
        this.x = x;
    }

    static Seen of(EdgeWear x) {
        Seen seen = new Seen(x);
        seen.askTools();
        seen.askLives();
        seen.tellReadings();
        seen.joinOrders();
        seen.takeAndBring();
        seen.useAndGrind();
        seen.fillUp();
        return seen;
    }

    int size() {
        return calls.size();
    }

    void compare(String after, Seen want, Check check) {
        for (int i = 0; i < want.calls.size(); i++) {
            check.same(after + ", then " + want.calls.get(i), want.answers.get(i), answers.get(i));
        }
    }

    private void ask(String call, Check.Call asked) {
        calls.add(call);
        answers.add(Check.answer(asked));
    }

    private void askTools() {
        for (int i = 0; i < 12; i++) {
            int tool = i;
            for (int j = 0; j < 6; j++) {
                int what = j;
                ask("about(" + tool + ", " + what + ")", () -> x.about(tool, what));
            }
        }
        for (int i = 0; i < 4; i++) {
            int sort = i;
            ask("spare(" + sort + ")", () -> x.spare(sort));
        }
        ask("open()", x::open);
    }

    private void askLives() {
        for (int i = 0; i < 4; i++) {
            int sort = i;
            ask("change(" + sort + ")", () -> x.change(sort));
            for (int j = 0; j < 5; j++) {
                int k = j;
                ask("breaks(" + sort + ", " + k + ")", () -> x.breaks(sort, k));
            }
            for (int n : new int[] {1, 4}) {
                ask("changed(" + sort + ", " + n + ", 0)", () -> x.changed(sort, n, 0));
                ask("changed(" + sort + ", " + n + ", 1)", () -> x.changed(sort, n, 1));
            }
        }
    }

    private void tellReadings() {
        ask("tool(0, 9, 3)", () -> x.tool(0, 9, 3));
        for (int i = 0; i < READINGS.length; i++) {
            int minute = i;
            int v = READINGS[i];
            ask("power(0, " + minute + ", " + v + ")", () -> x.power(0, minute, v));
        }
        ask("power(1, 0, 1)", () -> x.power(1, 0, 1));
        ask("power(1, 1, 2)", () -> x.power(1, 1, 2));
    }

    private void joinOrders() {
        for (int day : DAYS) {
            for (int i = 0; i < 4; i++) {
                int sort = i;
                ask("joined(" + sort + ", " + day + ")", () -> x.joined(sort, day));
            }
            ask("open()", x::open);
        }
    }

    private void takeAndBring() {
        for (int i = 0; i < 12; i++) {
            int sort = i / 3;
            ask("take(" + sort + ")", () -> x.take(sort));
        }
        for (int i = 0; i < 12; i++) {
            int tool = i;
            ask("bring(" + tool + ")", () -> x.bring(tool));
        }
    }

    private void useAndGrind() {
        for (int i = 0; i < 16; i++) {
            int kind = i / 4;
            int speed = i % 4;
            ask("use(0, 3, " + kind + ", " + speed + ")", () -> x.use(0, 3, kind, speed));
            ask("about(0, 0)", () -> x.about(0, 0));
        }
        for (int i = 0; i < 4; i++) {
            int tool = i;
            ask("use(" + tool + ", 150, 0, 0)", () -> x.use(tool, 150, 0, 0));
            for (int j = 0; j < 4; j++) {
                ask("grind(" + tool + ", 1)", () -> x.grind(tool, 1));
            }
            ask("about(" + tool + ", 1)", () -> x.about(tool, 1));
        }
    }

    private void fillUp() {
        for (int i = 0; i < 4; i++) {
            int sort = i;
            ask("life(" + sort + ", 1)", () -> x.life(sort, 1));
        }
        for (int i = 0; i < 17; i++) {
            ask("order(0, 5)", () -> x.order(0, 5));
        }
        for (int i = 0; i < 12; i++) {
            ask("tool(3, 2, 1)", () -> x.tool(3, 2, 1));
        }
    }
}
