import java.math.BigInteger;
import java.util.ArrayList;
import java.util.Comparator;
import java.util.HashMap;
import java.util.List;
import java.util.Map;

/** The document told a second time, with lists and maps and without thrift. */
final class PlainShop {
    private static final class Piece {
        int number;
        int sort;
        long length;
        long least;
        BigInteger wear = BigInteger.ZERO;
        boolean barred;
        boolean out;
        long uses;
        long grindings;
        List<Integer> readings = new ArrayList<>();
        List<Integer> minutes = new ArrayList<>();
    }

    private static final class Due {
        Piece piece;
        int day;
        boolean done;
    }

    private final int seed;
    private final List<Piece> pieces = new ArrayList<>();
    private final List<Due> dues = new ArrayList<>();
    private final Map<String, Integer> rates = new HashMap<>();
    private final Map<Integer, Long> limits = new HashMap<>();
    private final Map<Integer, int[]> costs = new HashMap<>();
    private final List<List<Integer>> lives = new ArrayList<>();
    private int high = 1000;
    private int run = 4;
    private int middle = 500;
    private int jump = 600;

    PlainShop(int seed) {
        this.seed = seed;
        for (int sort = 0; sort < 4; sort++) {
            lives.add(new ArrayList<>());
        }
    }

    private static void index(boolean holds) {
        if (!holds) {
            throw new IndexOutOfBoundsException();
        }
    }

    private static void argument(boolean holds) {
        if (!holds) {
            throw new IllegalArgumentException();
        }
    }

    private static void state(boolean holds) {
        if (!holds) {
            throw new IllegalStateException();
        }
    }

    private static boolean in(long v, long least, long most) {
        return least <= v && v <= most;
    }

    private Piece piece(int tool) {
        index(in(tool, 0, pieces.size() - 1));
        return pieces.get(tool);
    }

    private boolean blunt(Piece p) {
        return p.wear.compareTo(BigInteger.valueOf(limits.getOrDefault(p.sort, 1000000L))) > 0;
    }

    int tool(int sort, int length, int least) {
        index(in(sort, 0, 3));
        argument(in(least, 0, length));
        argument(length <= 1000000);
        state(pieces.size() < 12);
        Piece p = new Piece();
        p.number = pieces.size();
        p.sort = sort;
        p.length = length;
        p.least = least;
        pieces.add(p);
        return p.number;
    }

    void rate(int kind, int speed, int v) {
        index(in(kind, 0, 3) && in(speed, 0, 3));
        argument(in(v, 0, 1000000));
        rates.put(kind + "/" + speed, v);
    }

    void limit(int sort, long v) {
        index(in(sort, 0, 3));
        argument(in(v, 1, 1000000000000L));
        limits.put(sort, v);
    }

    boolean use(int tool, int metres, int kind, int speed) {
        Piece p = piece(tool);
        index(in(kind, 0, 3) && in(speed, 0, 3));
        argument(in(metres, 0, 1000000));
        state(!p.barred);
        BigInteger rate = BigInteger.valueOf(rates.getOrDefault(kind + "/" + speed, 1));
        p.wear = p.wear.add(rate.multiply(BigInteger.valueOf(metres))).min(BigInteger.TEN.pow(15));
        p.uses++;
        return !blunt(p);
    }

    boolean grind(int tool, int off) {
        Piece p = piece(tool);
        argument(in(off, 1, 1000000));
        state(!p.barred);
        p.barred = p.length - off < p.least;
        if (!p.barred) {
            p.length -= off;
            p.wear = BigInteger.ZERO;
            p.grindings++;
        }
        return !p.barred;
    }

    long about(int tool, int what) {
        Piece p = piece(tool);
        index(in(what, 0, 5));
        int marks = (p.barred ? 1 : 0) | (blunt(p) ? 2 : 0) | (p.out ? 4 : 0);
        return new long[] {p.wear.longValueExact(), p.length, p.sort, marks, p.uses, p.grindings}[what];
    }

    private List<Piece> spares(int sort) {
        index(in(sort, 0, 3));
        List<Piece> found = new ArrayList<>(pieces);
        found.removeIf(p -> p.sort != sort || p.barred || p.out || p.wear.signum() != 0);
        return found;
    }

    int spare(int sort) {
        return spares(sort).size();
    }

    int take(int sort) {
        Comparator<Piece> byLength = Comparator.comparingLong(p -> p.length);
        Piece next = spares(sort).stream()
                .min(byLength.thenComparingInt(p -> p.number)).orElse(null);
        if (next == null) {
            return -1;
        }
        next.out = true;
        return next.number;
    }

    boolean bring(int tool) {
        Piece p = piece(tool);
        boolean was = p.out;
        p.out = false;
        return was;
    }

    int life(int sort, int uses) {
        index(in(sort, 0, 3));
        argument(in(uses, 1, 1000));
        state(lives.get(sort).size() < 40);
        lives.get(sort).add(uses);
        return lives.get(sort).size();
    }

    void cost(int sort, int change, int fail) {
        index(in(sort, 0, 3));
        argument(in(change, 0, 1000000) && in(fail, 0, 1000000));
        costs.put(sort, new int[] {change, fail});
    }

    private int greatest(int sort) {
        return lives.get(sort).stream().mapToInt(i -> i).max().orElse(0);
    }

    private long part(int sort, int n, int part) {
        int[] cost = costs.getOrDefault(sort, new int[] {1, 1});
        return lives.get(sort).stream()
                .mapToLong(i -> part == 1 ? Math.min(i, n) : i < n ? cost[1] : cost[0]).sum();
    }

    int change(int sort) {
        index(in(sort, 0, 3));
        state(!lives.get(sort).isEmpty());
        int best = 1;
        for (int n = 2; n <= greatest(sort); n++) {
            if (part(sort, n, 0) * part(sort, best, 1) <= part(sort, best, 0) * part(sort, n, 1)) {
                best = n;
            }
        }
        return best;
    }

    long changed(int sort, int n, int part) {
        index(in(sort, 0, 3) && in(part, 0, 1));
        argument(n >= 1);
        state(n <= greatest(sort));
        return part(sort, n, part);
    }

    int breaks(int sort, int k) {
        index(in(sort, 0, 3));
        argument(k >= 0);
        state(!lives.get(sort).isEmpty());
        long z = (long) seed + (4 * (long) k + sort + 1) * 0x9E3779B97F4A7C15L;
        z = (z ^ z >>> 30) * 0xBF58476D1CE4E5B9L;
        z = (z ^ z >>> 27) * 0x94D049BB133111EBL;
        z = z ^ z >>> 31;
        return lives.get(sort).get((int) ((z >>> 1) % lives.get(sort).size()));
    }

    void rules(int newHigh, int newRun, int newMiddle, int newJump) {
        argument(in(newHigh, 0, 1000000) && in(newMiddle, 0, 1000000) && in(newJump, 0, 1000000));
        argument(in(newRun, 2, 12));
        high = newHigh;
        run = newRun;
        middle = newMiddle;
        jump = newJump;
    }

    int power(int tool, int minute, int v) {
        Piece p = piece(tool);
        argument(in(v, 0, 1000000));
        argument(minute >= 0);
        argument(p.minutes.isEmpty() || minute > p.minutes.get(p.minutes.size() - 1));
        p.minutes.add(minute);
        p.readings.add(v);
        return fired(p.readings);
    }

    private int fired(List<Integer> readings) {
        int size = readings.size();
        if (readings.get(size - 1) > high) {
            return 0;
        }
        if (size >= run) {
            List<Integer> latest = readings.subList(size - run, size);
            boolean rising = true;
            for (int i = 1; i < run; i++) {
                rising &= latest.get(i) > latest.get(i - 1);
            }
            if (rising) {
                return 1;
            }
            if (latest.stream().allMatch(i -> i > middle)) {
                return 2;
            }
        }
        if (size >= 3) {
            int last = Math.abs(readings.get(size - 1) - readings.get(size - 2));
            int before = Math.abs(readings.get(size - 2) - readings.get(size - 3));
            return last + before > jump ? 3 : -1;
        }
        return -1;
    }

    boolean order(int tool, int day) {
        Piece p = piece(tool);
        argument(in(day, 0, 10000));
        if (dues.size() == 16) {
            return false;
        }
        Due due = new Due();
        due.piece = p;
        due.day = day;
        return dues.add(due);
    }

    int joined(int sort, int day) {
        index(in(sort, 0, 3));
        argument(in(day, 0, 10000));
        List<Due> near = new ArrayList<>(dues);
        near.removeIf(d -> d.done || d.piece.sort != sort || d.day >= day + 7);
        if (near.stream().noneMatch(d -> d.day < day + 2)) {
            return 0;
        }
        near.forEach(d -> d.done = true);
        return near.size();
    }

    int open() {
        return (int) dues.stream().filter(d -> !d.done).count();
    }
}
