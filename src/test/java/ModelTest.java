import java.util.ArrayList;
import java.util.List;
import java.util.Random;
import java.util.TreeMap;
import java.util.function.Supplier;

/** All promises: runs of 512 drawn calls, the same ones each time, whose answers PlainModel gives too. */
public final class ModelTest {
    private static final int RUNS = 400;
    private static final int CALLS = 512;
    private static final int[] EDGES = {Integer.MIN_VALUE, Integer.MAX_VALUE, -1, 0, 1, 41, 48, 1001};

    private final Random random;
    private final BlobStore store = new BlobStore();
    private final PlainModel model = new PlainModel();
    private final List<String> calls = new ArrayList<>();
    private final int values;
    private final int cutChance;
    private final int endChance;
    private final boolean hasty;

    private ModelTest(int seed) {
        random = new Random(seed);
        // Few values make chunks that are alike, many fill the slots; the chances let some runs grow.
        values = new int[] {3, 12, 60, 1000}[seed % 4];
        cutChance = new int[] {0, 2, 6}[seed % 3];
        endChance = new int[] {1, 4, 8, 12}[seed / 4 % 4];
        hasty = seed % 5 == 0;
    }

    public static void main(String[] args) {
        Check check = new Check("ModelTest");
        TreeMap<String, Integer> reached = new TreeMap<>();
        for (int seed = 0; seed < RUNS; seed++) {
            new ModelTest(seed).run(seed, check, reached);
        }
        requireReached(check, reached);
        check.end();
    }

    /** A run that draws no lack of slots, say, would prove nothing about it. */
    private static void requireReached(Check check, TreeMap<String, Integer> reached) {
        String[] wanted = {"begin IllegalState", "begin IllegalArgument", "begin UnsupportedOperation",
            "part IllegalState", "part IllegalArgument", "part IndexOutOfBounds", "part UnsupportedOperation",
            "complete IllegalState", "complete IllegalArgument", "complete UnsupportedOperation",
            "abort IllegalState", "abort IllegalArgument", "abort UnsupportedOperation",
            "delete IllegalState", "delete UnsupportedOperation", "delete 0", "delete 1",
            "collect IllegalState", "collect UnsupportedOperation", "collect 0", "collect 1", "collect 10",
            "cutAfter IllegalArgument", "recover 0", "recover 1", "address NoSuchElement", "state 48",
            "complete IllegalState behind 40 versions", "collect 1 behind 40 versions"};
        for (String want : wanted) {
            if (reached.getOrDefault(want, 0) < 10) {
                check.tell("the runs reach '" + want + "' only " + reached.getOrDefault(want, 0) + " times");
            }
        }
    }

    private void run(int seed, Check check, TreeMap<String, Integer> reached) {
        for (int i = 0; i < CALLS; i++) {
            String[] answers = callBoth();
            String call = calls.get(calls.size() - 1);
            String told = call.substring(0, call.indexOf('(')) + " " + answers[1];
            reached.merge(told, 1, Integer::sum);
            reached.merge(told + " behind " + model.state(3) + " versions", 1, Integer::sum);
            if (!answers[0].equals(answers[1])) {
                check.tell("seed " + seed + ", call " + i + ": " + call + " answered " + answers[0] + ", due is "
                        + answers[1] + "; the calls: " + String.join("; ", calls));
                return;
            }
        }
    }

    private static String answer(Supplier<Object> call) {
        try {
            Object got = call.get();
            return got instanceof Boolean ? (Boolean) got ? "1" : "0" : String.valueOf(got);
        } catch (RuntimeException e) {
            return e.getClass().getSimpleName().replace("Exception", "");
        }
    }

    private String[] both(String name, Supplier<Object> ofStore, Supplier<Object> ofModel) {
        calls.add(name);
        return new String[] {answer(ofStore), answer(ofModel)};
    }

    /** A number from low to high, but now and then one beside them or an edge. */
    private int near(int low, int high) {
        int draw = random.nextInt(60);
        if (draw == 0) {
            return EDGES[random.nextInt(EDGES.length)];
        }
        return draw == 1 ? low - 1 : draw == 2 ? high + 1 : low + random.nextInt(high - low + 1);
    }

    private long word() {
        long value = random.nextInt(values);
        return random.nextInt(8) == 0 ? value << 56 : value * 0x9E3779B97F4A7C15L;
    }

    private String[] callBoth() {
        int draw = random.nextInt(100);
        if (model.state(5) == 1 && random.nextInt(4) == 0) {
            return both("recover()", store::recover, model::recover);
        }
        if (hasty && random.nextInt(3) == 0) {
            return random.nextBoolean() ? begin() : complete();
        }
        if (draw < 50) {
            return draw < 10 ? begin() : draw < 36 ? part() : end(draw);
        }
        return draw < 50 + cutChance ? cut() : tell();
    }

    private String[] begin() {
        int bucket = near(0, 3);
        int key = near(0, 7);
        return both("begin(" + bucket + ", " + key + ")", () -> store.begin(bucket, key),
                () -> model.begin(bucket, key));
    }

    private String[] part() {
        int session = near(0, 4);
        int number = near(1, 6);
        int n = random.nextInt(3) == 0 ? near(0, 24) : 24;
        long a = word();
        long b = word();
        long c = word();
        return both("part(" + session + ", " + number + ", " + n + ", " + a + ", " + b + ", " + c + ")",
                () -> store.part(session, number, n, a, b, c), () -> model.part(session, number, n, a, b, c));
    }

    private String[] end(int draw) {
        int session = near(0, 4);
        int version = near(1, Math.max(1, model.state(3)));
        if (random.nextInt(12) >= endChance) {
            return part();
        }
        switch (draw % 7) {
            case 0:
                return both("abort(" + session + ")", () -> {
                    store.abort(session);
                    return 0;
                }, () -> {
                    model.abort(session);
                    return 0;
                });
            case 1:
            case 2:
                return both("delete(" + version + ")", () -> store.delete(version), () -> model.delete(version));
            case 3:
                return both("collect()", store::collect, model::collect);
            default:
                return complete();
        }
    }

    private String[] complete() {
        int session = near(0, 4);
        return both("complete(" + session + ")", () -> store.complete(session), () -> model.complete(session));
    }

    private String[] cut() {
        int n = random.nextInt(4) == 0 ? near(0, 1000) : random.nextInt(8);
        if (random.nextInt(8) == 0) {
            return both("recover()", store::recover, model::recover);
        }
        return both("cutAfter(" + n + ")", () -> {
            store.cutAfter(n);
            return 0;
        }, () -> {
            model.cutAfter(n);
            return 0;
        });
    }

    private String[] tell() {
        int version = near(1, Math.max(1, model.state(3)));
        int slot = near(0, random.nextBoolean() ? 47 : Math.max(0, model.state(0)));
        int x = near(0, 7);
        int y = near(0, 7);
        int i = near(0, Math.max(0, model.size(version)));
        long a = word();
        switch (random.nextInt(8)) {
            case 0:
                return both("latest(" + x / 2 + ", " + y + ")", () -> store.latest(x / 2, y),
                        () -> model.latest(x / 2, y));
            case 1:
                return both("size(" + version + ")", () -> store.size(version), () -> model.size(version));
            case 2:
                return both("byteAt(" + version + ", " + i + ")", () -> store.byteAt(version, i),
                        () -> model.byteAt(version, i));
            case 3:
                return both("address(" + slot + ", " + x + ")", () -> store.address(slot, x),
                        () -> model.address(slot, x));
            case 4:
            case 5:
                return both("needed(" + slot + ")", () -> store.needed(slot), () -> model.needed(slot));
            case 6:
                int n = random.nextBoolean() ? 8 : near(1, 8);
                return both("slotOf(" + n + ", " + a + ")", () -> store.slotOf(n, a), () -> model.slotOf(n, a));
            default:
                return both("state(" + x + ")", () -> store.state(x), () -> model.state(x));
        }
    }
}
