import java.util.Arrays;

/**
 * Time and a net in one machine: alarms, syncs and messages happen in the order of their times.
 */
public final class NetWires {
    public static final int NONE = -1;

    private static final int ENDPOINTS = 16;
    private static final int ALL_ENDPOINTS = 65535;
    private static final int TAPE_ROOM = 2048;
    private static final int MOST_MESSAGES = 200;
    // One alarm and one sync of each endpoint can stand beside the messages.
    private static final int MOST_EVENTS = MOST_MESSAGES + 2 * ENDPOINTS;
    private static final int REMEMBERED = 32;
    private static final int FACTS = 4;

    private static final int FIRST_DELAY = 3;
    private static final int LONGEST_DELAY = 1000;
    private static final int LONGEST_TIMER = 100000;
    private static final int LONGEST_RUN = 1000;
    private static final int THOUSAND = 1000;

    // The kinds of events are what step() adds to the endpoint's number for them.
    private static final int MESSAGE = 0;
    private static final int LOST_MESSAGE = 16;
    private static final int ALARM = 32;
    private static final int SYNC = 48;

    private static final int LOSE = 0;
    private static final int REPEAT = 1;
    private static final int POSTPONE = 2;

    private static final byte[] NO_BYTES = {};

    private final Tape tape;
    private final Agenda agenda;
    private final History history;
    private final Noise disturbance;
    private final int[] delays;
    private int now;
    private int nextNumber;
    private int partedSet;
    private int downSet;
    private int everOnWay;
    private int lost;
    private byte[] arrivedBytes;

    public NetWires() {
        tape = new Tape();
        agenda = new Agenda();
        history = new History();
        disturbance = new Noise();
        delays = new int[ENDPOINTS * ENDPOINTS];
        Arrays.fill(delays, FIRST_DELAY);
        now = 0;
        nextNumber = 0;
        partedSet = 0;
        downSet = 0;
        everOnWay = 0;
        lost = 0;
        arrivedBytes = NO_BYTES;
    }

    public int feed(long eight, int n) throws IllegalArgumentException, IllegalStateException {
        if (n < 1 || n > 8) {
            throw new IllegalArgumentException("n is not 1 .. 8");
        }
        if (!tape.hasRoomFor(n)) {
            throw new IllegalStateException("the tape is full");
        }
        for (int i = 0; i < n; i++) {
            tape.append((byte) (eight >>> (8 * i)));
        }
        return tape.length;
    }

    public int send(int from, int to) throws IndexOutOfBoundsException {
        byte[] bytes = tape.takeAll();
        demandEndpoint(from);
        demandEndpoint(to);
        if (areParted(from, to)) {
            lost++;
            return 0;
        }
        if (disturbance.isOn()) {
            return launchThroughNoise(from, to, bytes);
        }
        return launch(from, to, 0, bytes);
    }

    public boolean alarm(int endpoint, int ticks) throws IndexOutOfBoundsException, IllegalArgumentException {
        demandEndpoint(endpoint);
        demandTicks(ticks, LONGEST_TIMER);
        return setTimer(ALARM, endpoint, ticks);
    }

    public boolean noAlarm(int endpoint) throws IndexOutOfBoundsException {
        demandEndpoint(endpoint);
        return dropTimer(ALARM, endpoint);
    }

    public boolean sync(int endpoint, int ticks) throws IndexOutOfBoundsException, IllegalArgumentException {
        demandEndpoint(endpoint);
        demandTicks(ticks, LONGEST_TIMER);
        return setTimer(SYNC, endpoint, ticks);
    }

    public boolean noSync(int endpoint) throws IndexOutOfBoundsException {
        demandEndpoint(endpoint);
        return dropTimer(SYNC, endpoint);
    }

    public int step() {
        Event next = agenda.takeAt(0);
        if (next == null) {
            return NONE;
        }
        return letHappen(next);
    }

    public int run(int n) throws IllegalArgumentException {
        if (!isWithin(n, 1, LONGEST_RUN)) {
            throw new IllegalArgumentException("n is not 1 .. 1000");
        }
        int end = now + n;
        int happenings = 0;
        // No event makes another one, so there are never more than the agenda can hold.
        while (happenings < MOST_EVENTS) {
            Event next = agenda.at(0);
            if (next == null || next.time > end) {
                break;
            }
            agenda.takeAt(0);
            letHappen(next);
            happenings++;
        }
        now = end;
        return happenings;
    }

    public int delay(int from, int to, int ticks) throws IndexOutOfBoundsException, IllegalArgumentException {
        demandEndpoint(from);
        demandEndpoint(to);
        demandTicks(ticks, LONGEST_DELAY);
        int link = linkOf(from, to);
        int before = delays[link];
        delays[link] = ticks;
        return before;
    }

    public int part(int set) throws IllegalArgumentException {
        demandSet(set);
        int before = partedSet;
        partedSet = set;
        return before;
    }

    public int down(int set) throws IllegalArgumentException {
        demandSet(set);
        int before = downSet;
        downSet = set;
        return before;
    }

    public void noise(int loss, int twice, int spread, long draw) throws IllegalArgumentException {
        if (!isWithin(loss, 0, THOUSAND) || !isWithin(twice, 0, THOUSAND) || !isWithin(spread, 0, LONGEST_DELAY)) {
            throw new IllegalArgumentException("loss, twice and spread are not all 0 .. 1000");
        }
        disturbance.set(loss, twice, spread, draw);
    }

    public boolean meddle(int k, int what, int ticks) throws IllegalArgumentException {
        if (!canMeddle(what, ticks)) {
            throw new IllegalArgumentException("no such meddling");
        }
        int place = agenda.placeOfMessage(k);
        Event meant = agenda.at(place);
        if (meant == null) {
            return false;
        }
        if (what == REPEAT) {
            launch(meant.from, meant.endpoint, 0, meant.bytes);
            return true;
        }
        agenda.takeAt(place);
        if (what == LOSE) {
            lost++;
        } else {
            addMessage(meant.from, meant.endpoint, meant.time + ticks, meant.bytes);
        }
        return true;
    }

    public int message(int k, int what) {
        Event meant = agenda.at(agenda.placeOfMessage(k));
        if (meant == null) {
            return NONE;
        }
        switch (what) {
            case 0:
                return meant.from;
            case 1:
                return meant.endpoint;
            case 2:
                return meant.time;
            case 3:
                return meant.number;
            case 4:
                return meant.bytes.length;
            default:
                return NONE;
        }
    }

    public int messageAt(int k, int i) throws IndexOutOfBoundsException {
        Event meant = agenda.at(agenda.placeOfMessage(k));
        if (meant == null) {
            throw new IndexOutOfBoundsException("no such message");
        }
        if (i < 0 || i >= meant.bytes.length) {
            throw new IndexOutOfBoundsException("no such byte");
        }
        return meant.bytes[i] & 255;
    }

    public int happened(int k, int what) {
        return history.fact(k, what);
    }

    public int byteAt(int i) throws IndexOutOfBoundsException {
        if (i < 0 || i >= arrivedBytes.length) {
            throw new IndexOutOfBoundsException("no such byte");
        }
        return arrivedBytes[i] & 255;
    }

    public int when(int endpoint, int what) throws IndexOutOfBoundsException {
        demandEndpoint(endpoint);
        if (what != 0 && what != 1) {
            throw new IndexOutOfBoundsException("no such timer");
        }
        Event timer = agenda.at(agenda.placeOfTimer(what == 0 ? ALARM : SYNC, endpoint));
        return timer == null ? NONE : timer.time;
    }

    public int count(int what) {
        switch (what) {
            case 0:
                return now;
            case 1:
                return agenda.messages;
            case 2:
                return everOnWay;
            case 3:
                return lost;
            case 4:
                return history.total;
            case 5:
                return nextNumber;
            case 6:
                return tape.length;
            case 7:
                return arrivedBytes.length;
            default:
                return NONE;
        }
    }

    private static boolean isWithin(int value, int lowest, int highest) {
        return value >= lowest && value <= highest;
    }

    private static void demandEndpoint(int number) {
        if (!isWithin(number, 0, ENDPOINTS - 1)) {
            throw new IndexOutOfBoundsException("no such endpoint");
        }
    }

    private static void demandTicks(int ticks, int most) {
        if (!isWithin(ticks, 0, most)) {
            throw new IllegalArgumentException("no such ticks");
        }
    }

    private static void demandSet(int set) {
        if (!isWithin(set, 0, ALL_ENDPOINTS)) {
            throw new IllegalArgumentException("no such set of endpoints");
        }
    }

    private static boolean isIn(int set, int endpoint) {
        return ((set >> endpoint) & 1) == 1;
    }

    private static int linkOf(int from, int to) {
        return from * ENDPOINTS + to;
    }

    private static boolean canMeddle(int what, int ticks) {
        if (what == POSTPONE) {
            return isWithin(ticks, 0, LONGEST_DELAY);
        }
        return (what == LOSE || what == REPEAT) && ticks == 0;
    }

    private boolean areParted(int one, int other) {
        return isIn(partedSet, one) != isIn(partedSet, other);
    }

    private int takeNumber() {
        int number = nextNumber;
        nextNumber++;
        return number;
    }

    private int launchThroughNoise(int from, int to, byte[] bytes) {
        if (disturbance.drawBelow(THOUSAND) < disturbance.loss) {
            lost++;
            return 0;
        }
        int copies = disturbance.drawBelow(THOUSAND) < disturbance.twice ? 2 : 1;
        int launched = 0;
        for (int i = 0; i < copies; i++) {
            int late = disturbance.drawBelow(disturbance.spread + 1);
            launched += launch(from, to, late, bytes);
        }
        return launched;
    }

    private int launch(int from, int to, int late, byte[] bytes) {
        if (agenda.messages >= MOST_MESSAGES) {
            lost++;
            return 0;
        }
        addMessage(from, to, now + delays[linkOf(from, to)] + late, bytes);
        everOnWay++;
        return 1;
    }

    // The bytes are never changed once sent, so copies of a message share them.
    private void addMessage(int from, int to, int time, byte[] bytes) {
        agenda.insert(new Event(MESSAGE, to, from, time, takeNumber(), bytes));
    }

    private boolean setTimer(int kind, int endpoint, int ticks) {
        boolean before = dropTimer(kind, endpoint);
        agenda.insert(new Event(kind, endpoint, NONE, now + ticks, takeNumber(), NO_BYTES));
        return before;
    }

    private boolean dropTimer(int kind, int endpoint) {
        return agenda.takeAt(agenda.placeOfTimer(kind, endpoint)) != null;
    }

    private int letHappen(Event event) {
        now = event.time;
        int kind = event.kind;
        if (kind == MESSAGE) {
            kind = receive(event);
        }
        int answer = event.endpoint + kind;
        history.remember(answer, event);
        return answer;
    }

    private int receive(Event event) {
        if (areParted(event.from, event.endpoint) || isIn(downSet, event.endpoint)) {
            lost++;
            return LOST_MESSAGE;
        }
        arrivedBytes = event.bytes;
        return MESSAGE;
    }

    private static final class Event {
        final int kind;
        final int endpoint;
        final int from;
        final int time;
        final int number;
        final byte[] bytes;

        Event(int kind, int endpoint, int from, int time, int number, byte[] bytes) {
            this.kind = kind;
            this.endpoint = endpoint;
            this.from = from;
            this.time = time;
            this.number = number;
            this.bytes = bytes;
        }
    }

    /** The events to come, in the order in which they will happen. */
    private static final class Agenda {
        final Event[] events;
        int size;
        int messages;

        Agenda() {
            events = new Event[MOST_EVENTS];
            size = 0;
            messages = 0;
        }

        Event at(int place) {
            if (place < 0 || place >= size) {
                return null;
            }
            return events[place];
        }

        // A new event has the highest number, so it comes behind all of its time.
        void insert(Event event) {
            if (size >= MOST_EVENTS) {
                return;
            }
            int place = size;
            while (place > 0 && isAfter(place - 1, event.time)) {
                events[place] = events[place - 1];
                place--;
            }
            events[place] = event;
            size++;
            if (event.kind == MESSAGE) {
                messages++;
            }
        }

        Event takeAt(int place) {
            Event taken = at(place);
            if (taken == null) {
                return null;
            }
            for (int i = place + 1; i < size; i++) {
                events[i - 1] = events[i];
            }
            size--;
            events[size] = null;
            if (taken.kind == MESSAGE) {
                messages--;
            }
            return taken;
        }

        int placeOfMessage(int k) {
            if (k < 0 || k >= messages) {
                return NONE;
            }
            int before = 0;
            for (int i = 0; i < size; i++) {
                Event event = at(i);
                if (event != null && event.kind == MESSAGE) {
                    if (before == k) {
                        return i;
                    }
                    before++;
                }
            }
            return NONE;
        }

        int placeOfTimer(int kind, int endpoint) {
            for (int i = 0; i < size; i++) {
                Event event = at(i);
                if (event != null && event.kind == kind && event.endpoint == endpoint) {
                    return i;
                }
            }
            return NONE;
        }

        boolean isAfter(int place, int time) {
            Event event = at(place);
            return event != null && event.time > time;
        }
    }

    /** The bytes that the next message will have. */
    private static final class Tape {
        final byte[] bytes;
        int length;

        Tape() {
            bytes = new byte[TAPE_ROOM];
            length = 0;
        }

        boolean hasRoomFor(int n) {
            return n <= TAPE_ROOM - length;
        }

        void append(byte value) {
            if (hasRoomFor(1)) {
                bytes[length] = value;
                length++;
            }
        }

        byte[] takeAll() {
            if (length <= 0) {
                return NO_BYTES;
            }
            byte[] all = Arrays.copyOf(bytes, length);
            length = 0;
            return all;
        }
    }

    /** What the net does to messages by chance, as its draws tell. */
    private static final class Noise {
        int loss;
        int twice;
        int spread;
        long draw;

        Noise() {
            loss = 0;
            twice = 0;
            spread = 0;
            draw = 0;
        }

        void set(int newLoss, int newTwice, int newSpread, long newDraw) {
            loss = newLoss;
            twice = newTwice;
            spread = newSpread;
            draw = newDraw;
        }

        boolean isOn() {
            return loss != 0 || twice != 0 || spread != 0;
        }

        int drawBelow(int m) {
            draw = draw * 6364136223846793005L + 1442695040888963407L;
            if (m <= 0) {
                return 0;
            }
            return (int) ((draw >>> 33) % m);
        }
    }

    /** The latest events that happened, as rows of four facts that are written over in turn. */
    private static final class History {
        final int[] facts;
        int newest;
        int kept;
        int total;

        History() {
            facts = new int[REMEMBERED * FACTS];
            newest = 0;
            kept = 0;
            total = 0;
        }

        void remember(int answer, Event event) {
            newest = (newest + 1) % REMEMBERED;
            int start = newest * FACTS;
            facts[start] = answer;
            facts[start + 1] = event.time;
            facts[start + 2] = event.number;
            facts[start + 3] = event.from;
            if (kept < REMEMBERED) {
                kept++;
            }
            total++;
        }

        int fact(int k, int what) {
            if (k < 0 || k >= kept || what < 0 || what >= FACTS) {
                return NONE;
            }
            int entry = (newest - k + REMEMBERED) % REMEMBERED;
            return facts[entry * FACTS + what];
        }
    }
}
