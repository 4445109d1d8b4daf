import java.util.ArrayList;
import java.util.List;
import java.util.Random;
import java.util.function.LongSupplier;

/** Many runs of 512 calls, made from fixed seeds, in which NetWires and the Model answer alike. */
public final class ModelTest {
    private static final int RUNS = 1500;
    private static final int CALLS = 512;
    private static final int METHODS = 19;
    private static final int MOST_SHOWN = 12;
    private static final int[] ODD = {-1, 16, 17, 32, 65536, Integer.MIN_VALUE, Integer.MAX_VALUE};

    /** What a run does often, beside all the rest: a weight for each method in the order of the face. */
    private static final int[][] WEIGHTS = {
        {4, 6, 3, 1, 3, 1, 8, 2, 2, 1, 1, 1, 4, 4, 2, 4, 2, 3, 4},
        {1, 40, 1, 1, 1, 1, 2, 0, 1, 0, 0, 1, 20, 4, 1, 1, 1, 1, 4},
        {60, 1, 1, 1, 1, 1, 1, 1, 1, 1, 1, 1, 2, 2, 4, 1, 4, 1, 2},
        {1, 8, 12, 3, 12, 3, 14, 2, 2, 1, 1, 1, 3, 2, 1, 8, 1, 8, 3},
        {2, 14, 1, 1, 1, 1, 6, 2, 6, 4, 4, 3, 8, 8, 2, 4, 2, 1, 6},
    };

    private final Random random;
    private final NetWires net = new NetWires();
    private final Model model = new Model();
    private final List<String> told = new ArrayList<>();
    private LongSupplier real;
    private LongSupplier due;
    private String call;

    private ModelTest(long seed) {
        random = new Random(seed);
    }

    public static void main(String[] args) {
        int wrong = 0;
        for (int run = 0; run < RUNS; run++) {
            if (!new ModelTest(run).agrees(WEIGHTS[run % WEIGHTS.length])) {
                wrong++;
                System.out.println("in the run of seed " + run);
            }
        }
        System.out.println(RUNS + " runs, " + wrong + " wrong");
        if (wrong != 0) {
            System.exit(1);
        }
    }

    private boolean agrees(int[] weights) {
        for (int i = 0; i < CALLS; i++) {
            choose(pick(weights));
            String got = answer(real);
            String want = answer(due);
            told.add(call + " = " + got);
            if (!got.equals(want)) {
                told.subList(Math.max(0, told.size() - MOST_SHOWN), told.size()).forEach(System.out::println);
                System.out.println("call " + i + ", due is " + want);
                return false;
            }
        }
        return true;
    }

    private static String answer(LongSupplier supplier) {
        try {
            return Long.toString(supplier.getAsLong());
        } catch (RuntimeException e) {
            return e.getClass().getName();
        }
    }

    private int pick(int[] weights) {
        int sum = 0;
        for (int weight : weights) {
            sum += weight;
        }
        int at = random.nextInt(sum);
        for (int i = 0; i < METHODS; i++) {
            at -= weights[i];
            if (at < 0) {
                return i;
            }
        }
        return 0;
    }

    /** Mostly one of low .. high, often an edge, at times one beside it or far from it. */
    private int value(int low, int high) {
        switch (random.nextInt(40)) {
            case 0:
                return low - 1;
            case 1:
                return high + 1;
            case 2:
                return ODD[random.nextInt(ODD.length)];
            case 3: case 4:
                return low;
            case 5: case 6:
                return high;
            default:
                return low + random.nextInt(high - low + 1);
        }
    }

    private int small(int most) {
        return random.nextInt(4) == 0 ? value(0, most) : random.nextInt(Math.min(most, 6));
    }

    private int set() {
        return random.nextInt(3) == 0 ? value(0, 65535) : random.nextBoolean() ? 0 : 1 << random.nextInt(16);
    }

    private void ask(String name, LongSupplier realCall, LongSupplier dueCall) {
        call = name;
        real = realCall;
        due = dueCall;
    }

    private static long bit(boolean value) {
        return value ? 1 : 0;
    }

    private void choose(int method) {
        switch (method) {
            case 0: case 1: case 6: case 7: case 8:
                chooseFlow(method);
                break;
            case 2: case 3: case 4: case 5: case 17:
                chooseTimer(method);
                break;
            case 9: case 10: case 11: case 12:
                chooseTrouble(method);
                break;
            default:
                chooseLook(method);
        }
    }

    private void chooseFlow(int method) {
        int from = value(0, 15);
        int to = value(0, 15);
        int ticks = small(1000);
        if (method == 0) {
            long eight = random.nextLong();
            int n = random.nextInt(3) == 0 ? value(1, 8) : 8;
            ask("feed(" + eight + ", " + n + ")", () -> net.feed(eight, n), () -> model.feed(eight, n));
        } else if (method == 1) {
            ask("send(" + from + ", " + to + ")", () -> net.send(from, to), () -> model.send(from, to));
        } else if (method == 6) {
            ask("step()", net::step, model::step);
        } else if (method == 7) {
            int n = random.nextInt(4) == 0 ? value(1, 1000) : 1 + random.nextInt(6);
            ask("run(" + n + ")", () -> net.run(n), () -> model.run(n));
        } else {
            ask("delay(" + from + ", " + to + ", " + ticks + ")",
                () -> net.delay(from, to, ticks), () -> model.delay(from, to, ticks));
        }
    }

    private void chooseTimer(int method) {
        int e = value(0, 15);
        int ticks = small(100000);
        if (method == 2) {
            ask("alarm(" + e + ", " + ticks + ")", () -> bit(net.alarm(e, ticks)), () -> model.timer("alarm", e, ticks));
        } else if (method == 3) {
            ask("noAlarm(" + e + ")", () -> bit(net.noAlarm(e)), () -> model.noTimer("alarm", e));
        } else if (method == 4) {
            ask("sync(" + e + ", " + ticks + ")", () -> bit(net.sync(e, ticks)), () -> model.timer("sync", e, ticks));
        } else if (method == 5) {
            ask("noSync(" + e + ")", () -> bit(net.noSync(e)), () -> model.noTimer("sync", e));
        } else {
            int what = value(0, 1);
            ask("when(" + e + ", " + what + ")", () -> net.when(e, what), () -> model.when(e, what));
        }
    }

    private void chooseTrouble(int method) {
        int set = set();
        if (method == 9) {
            ask("part(" + set + ")", () -> net.part(set), () -> model.part(set));
        } else if (method == 10) {
            ask("down(" + set + ")", () -> net.down(set), () -> model.down(set));
        } else if (method == 11) {
            int loss = random.nextBoolean() ? 0 : value(0, 1000);
            int twice = random.nextBoolean() ? 0 : value(0, 1000);
            int spread = random.nextBoolean() ? 0 : small(1000);
            long draw = random.nextLong();
            ask("noise(" + loss + ", " + twice + ", " + spread + ", " + draw + ")", () -> {
                net.noise(loss, twice, spread, draw);
                return 0;
            }, () -> model.noise(loss, twice, spread, draw));
        } else {
            int k = someMessage();
            int what = random.nextInt(3) == 0 ? value(0, 2) : 1;
            int ticks = what == 2 || random.nextInt(20) == 0 ? small(1000) : 0;
            ask("meddle(" + k + ", " + what + ", " + ticks + ")",
                () -> bit(net.meddle(k, what, ticks)), () -> model.meddle(k, what, ticks));
        }
    }

    private int someMessage() {
        return value(0, (int) model.count(1));
    }

    private void chooseLook(int method) {
        int k = someMessage();
        if (method == 13) {
            int what = value(0, 4);
            ask("message(" + k + ", " + what + ")", () -> net.message(k, what), () -> model.message(k, what));
        } else if (method == 14) {
            int i = value(0, (int) Math.max(1, model.message(k, 4)));
            ask("messageAt(" + k + ", " + i + ")", () -> net.messageAt(k, i), () -> model.messageAt(k, i));
        } else if (method == 15) {
            int ago = value(0, 32);
            int what = value(0, 3);
            ask("happened(" + ago + ", " + what + ")", () -> net.happened(ago, what), () -> model.happened(ago, what));
        } else if (method == 16) {
            int i = value(0, (int) model.count(7));
            ask("byteAt(" + i + ")", () -> net.byteAt(i), () -> model.byteAt(i));
        } else {
            int what = value(0, 7);
            ask("count(" + what + ")", () -> net.count(what), () -> model.count(what));
        }
    }
}
