import java.util.ArrayDeque;
import java.util.ArrayList;
import java.util.Comparator;
import java.util.HashMap;
import java.util.List;
import java.util.Map;
import java.util.TreeSet;

/** The document told once more with the Java library, slow and plain, to be compared with NetWires. */
final class Model {
    private static final class Happening {
        String kind;
        int endpoint;
        int from = -1;
        int time;
        int number;
        List<Integer> says = List.of();
    }

    private final TreeSet<Happening> coming =
        new TreeSet<>(Comparator.<Happening>comparingInt(h -> h.time).thenComparingInt(h -> h.number));
    private final Map<String, Happening> timers = new HashMap<>();
    private final Map<String, Integer> delays = new HashMap<>();
    private final ArrayDeque<int[]> past = new ArrayDeque<>();
    private List<Integer> tape = new ArrayList<>();
    private List<Integer> arrived = List.of();
    private int parted = 0;
    private int down = 0;
    private int loss = 0;
    private int twice = 0;
    private int spread = 0;
    private long draw = 0;
    private int now = 0;
    private int numbers = 0;
    private int ever = 0;
    private int lost = 0;
    private int events = 0;

    private static void endpoint(int e) {
        if (e < 0 || e > 15) {
            throw new IndexOutOfBoundsException();
        }
    }

    private static void range(int value, int low, int high) {
        if (value < low || value > high) {
            throw new IllegalArgumentException();
        }
    }

    long feed(long eight, int n) {
        range(n, 1, 8);
        if (tape.size() + n > 2048) {
            throw new IllegalStateException();
        }
        for (int i = 0; i < n; i++) {
            tape.add((int) (eight & 0xFF));
            eight >>= 8;
        }
        return tape.size();
    }

    private boolean apart(int a, int b) {
        return ((parted >> a ^ parted >> b) & 1) != 0;
    }

    private int draw(int m) {
        draw = draw * 6364136223846793005L + 1442695040888963407L;
        return (int) ((draw >>> 33) % m);
    }

    long send(int from, int to) {
        List<Integer> says = tape;
        tape = new ArrayList<>();
        endpoint(from);
        endpoint(to);
        if (apart(from, to)) {
            lost++;
            return 0;
        }
        if (loss + twice + spread == 0) {
            return put(from, to, 0, says);
        }
        if (draw(1000) < loss) {
            lost++;
            return 0;
        }
        if (draw(1000) < twice) {
            int first = draw(spread + 1);
            int second = draw(spread + 1);
            return put(from, to, first, says) + put(from, to, second, says);
        }
        return put(from, to, draw(spread + 1), says);
    }

    private int put(int from, int to, int late, List<Integer> says) {
        if (messages().size() == 200) {
            lost++;
            return 0;
        }
        Happening h = new Happening();
        h.kind = "message";
        h.endpoint = to;
        h.from = from;
        h.says = says;
        h.time = now + delays.getOrDefault(from + ">" + to, 3) + late;
        h.number = numbers++;
        coming.add(h);
        ever++;
        return 1;
    }

    private List<Happening> messages() {
        return coming.stream().filter(h -> h.kind.equals("message")).toList();
    }

    private Happening kth(int k) {
        List<Happening> all = messages();
        return k < 0 || k >= all.size() ? null : all.get(k);
    }

    long timer(String kind, int e, int ticks) {
        endpoint(e);
        range(ticks, 0, 100000);
        long before = noTimer(kind, e);
        Happening h = new Happening();
        h.kind = kind;
        h.endpoint = e;
        h.time = now + ticks;
        h.number = numbers++;
        coming.add(h);
        timers.put(kind + e, h);
        return before;
    }

    long noTimer(String kind, int e) {
        endpoint(e);
        Happening h = timers.remove(kind + e);
        if (h == null) {
            return 0;
        }
        coming.remove(h);
        return 1;
    }

    long step() {
        Happening h = coming.pollFirst();
        if (h == null) {
            return -1;
        }
        now = h.time;
        events++;
        int answer = h.endpoint;
        switch (h.kind) {
            case "alarm" -> answer += 32;
            case "sync" -> answer += 48;
            default -> {
                if (apart(h.from, h.endpoint) || (down >> h.endpoint & 1) != 0) {
                    lost++;
                    answer += 16;
                } else {
                    arrived = h.says;
                }
            }
        }
        timers.remove(h.kind + h.endpoint);
        past.addFirst(new int[] {answer, h.time, h.number, h.from});
        return answer;
    }

    long run(int n) {
        range(n, 1, 1000);
        int end = now + n;
        int many = 0;
        while (!coming.isEmpty() && coming.first().time <= end) {
            step();
            many++;
        }
        now = end;
        return many;
    }

    long delay(int from, int to, int ticks) {
        endpoint(from);
        endpoint(to);
        range(ticks, 0, 1000);
        Integer before = delays.put(from + ">" + to, ticks);
        return before == null ? 3 : before;
    }

    long part(int set) {
        range(set, 0, 65535);
        int before = parted;
        parted = set;
        return before;
    }

    long down(int set) {
        range(set, 0, 65535);
        int before = down;
        down = set;
        return before;
    }

    long noise(int newLoss, int newTwice, int newSpread, long newDraw) {
        range(newLoss, 0, 1000);
        range(newTwice, 0, 1000);
        range(newSpread, 0, 1000);
        loss = newLoss;
        twice = newTwice;
        spread = newSpread;
        draw = newDraw;
        return 0;
    }

    long meddle(int k, int what, int ticks) {
        range(what, 0, 2);
        range(ticks, 0, what == 2 ? 1000 : 0);
        Happening h = kth(k);
        if (h == null) {
            return 0;
        }
        if (what == 0) {
            coming.remove(h);
            lost++;
        } else if (what == 1) {
            put(h.from, h.endpoint, 0, h.says);
        } else {
            coming.remove(h);
            h.time += ticks;
            h.number = numbers++;
            coming.add(h);
        }
        return 1;
    }

    long message(int k, int what) {
        Happening h = kth(k);
        if (h == null || what < 0 || what > 4) {
            return -1;
        }
        return new int[] {h.from, h.endpoint, h.time, h.number, h.says.size()}[what];
    }

    long messageAt(int k, int i) {
        Happening h = kth(k);
        if (h == null || i < 0 || i >= h.says.size()) {
            throw new IndexOutOfBoundsException();
        }
        return h.says.get(i);
    }

    long happened(int k, int what) {
        if (k < 0 || k > 31 || k >= past.size() || what < 0 || what > 3) {
            return -1;
        }
        return past.stream().skip(k).findFirst().get()[what];
    }

    long byteAt(int i) {
        if (i < 0 || i >= arrived.size()) {
            throw new IndexOutOfBoundsException();
        }
        return arrived.get(i);
    }

    long when(int e, int what) {
        endpoint(e);
        if (what < 0 || what > 1) {
            throw new IndexOutOfBoundsException();
        }
        Happening h = timers.get((what == 0 ? "alarm" : "sync") + e);
        return h == null ? -1 : h.time;
    }

    long count(int what) {
        if (what < 0 || what > 7) {
            return -1;
        }
        return new int[] {now, messages().size(), ever, lost, events, numbers, tape.size(), arrived.size()}[what];
    }
}
