/** Promises 1, 4 to 9, 17, 19: a new object, timers, step, run, what happened and when. */
public final class TimeTest {
    private static final Class<IndexOutOfBoundsException> INDEX = IndexOutOfBoundsException.class;
    private static final Class<IllegalArgumentException> ARGUMENT = IllegalArgumentException.class;
    private static final int[] NO_ENDPOINTS = {-1, 16, Integer.MIN_VALUE, Integer.MAX_VALUE};
    private static final Checks CHECKS = new Checks();

    public static void main(String[] args) {
        newObject();
        alarms();
        syncs();
        wrongTimers();
        timersAreApart();
        orderOfEvents();
        anewTakesANewNumber();
        steps();
        runs();
        wrongRuns();
        histories();
        historyForgets();
        whens();
        CHECKS.end();
    }

    private static void newObject() {
        NetWires net = new NetWires();
        for (int what = 0; what < 8; what++) {
            CHECKS.same("new: count(" + what + ")", net.count(what), 0);
        }
        for (int endpoint = 0; endpoint < 16; endpoint++) {
            CHECKS.same("new: alarm of " + endpoint, net.when(endpoint, 0), NetWires.NONE);
            CHECKS.same("new: sync of " + endpoint, net.when(endpoint, 1), NetWires.NONE);
        }
        CHECKS.same("new: message(0, 0)", net.message(0, 0), NetWires.NONE);
        CHECKS.same("new: happened(0, 0)", net.happened(0, 0), NetWires.NONE);
        CHECKS.raises("new: byteAt(0)", INDEX, () -> net.byteAt(0));
        CHECKS.same("new: part(0)", net.part(0), 0);
        CHECKS.same("new: down(0)", net.down(0), 0);
        CHECKS.same("new: step()", net.step(), NetWires.NONE);
        for (int from = 0; from < 16; from++) {
            CHECKS.same("new: delay from " + from, net.delay(from, 15 - from, 3), 3);
        }
        CHECKS.same("new: no noise", net.send(0, 1), 1);
        CHECKS.same("new: no noise, when", net.message(0, 2), 3);
    }

    private static void alarms() {
        NetWires net = new NetWires();
        CHECKS.fails("first alarm(3, 10)", net.alarm(3, 10));
        CHECKS.same("when the alarm is", net.when(3, 0), 10);
        CHECKS.same("no sync by an alarm", net.when(3, 1), NetWires.NONE);
        CHECKS.holds("alarm(3, 4) anew", net.alarm(3, 4));
        CHECKS.same("when it is then", net.when(3, 0), 4);
        CHECKS.same("it rings", net.step(), 32 + 3);
        CHECKS.same("NOW", net.count(0), 4);
        CHECKS.same("only one rang", net.step(), NetWires.NONE);
        CHECKS.fails("it is gone", net.alarm(3, 0));
        CHECKS.same("an alarm for NOW", net.when(3, 0), 4);
        CHECKS.holds("noAlarm(3)", net.noAlarm(3));
        CHECKS.fails("noAlarm(3) again", net.noAlarm(3));
        CHECKS.same("nothing rings", net.step(), NetWires.NONE);
        CHECKS.fails("alarm(0, 100000)", net.alarm(0, 100000));
        CHECKS.same("the longest", net.when(0, 0), 100004);
    }

    private static void syncs() {
        NetWires net = new NetWires();
        CHECKS.fails("first sync(15, 10)", net.sync(15, 10));
        CHECKS.same("when the sync is", net.when(15, 1), 10);
        CHECKS.same("no alarm by a sync", net.when(15, 0), NetWires.NONE);
        CHECKS.holds("sync(15, 4) anew", net.sync(15, 4));
        CHECKS.same("a sync happens", net.step(), 48 + 15);
        CHECKS.same("NOW", net.count(0), 4);
        CHECKS.same("only one did", net.step(), NetWires.NONE);
        CHECKS.fails("it is gone", net.sync(15, 0));
        CHECKS.holds("noSync(15)", net.noSync(15));
        CHECKS.fails("noSync(15) again", net.noSync(15));
        CHECKS.fails("sync(0, 100000)", net.sync(0, 100000));
        CHECKS.same("the longest", net.when(0, 1), 100004);
    }

    private static void wrongTimers() {
        NetWires net = new NetWires();
        net.alarm(2, 5);
        net.sync(2, 6);
        for (int endpoint : NO_ENDPOINTS) {
            CHECKS.raises("alarm(" + endpoint + ", 1)", INDEX, () -> net.alarm(endpoint, 1) ? 1 : 0);
            CHECKS.raises("alarm(" + endpoint + ", -1)", INDEX, () -> net.alarm(endpoint, -1) ? 1 : 0);
            CHECKS.raises("sync(" + endpoint + ", 1)", INDEX, () -> net.sync(endpoint, 1) ? 1 : 0);
            CHECKS.raises("sync(" + endpoint + ", 100001)", INDEX, () -> net.sync(endpoint, 100001) ? 1 : 0);
            CHECKS.raises("noAlarm(" + endpoint + ")", INDEX, () -> net.noAlarm(endpoint) ? 1 : 0);
            CHECKS.raises("noSync(" + endpoint + ")", INDEX, () -> net.noSync(endpoint) ? 1 : 0);
        }
        for (int ticks : new int[] {-1, 100001, Integer.MIN_VALUE, Integer.MAX_VALUE}) {
            CHECKS.raises("alarm(2, " + ticks + ")", ARGUMENT, () -> net.alarm(2, ticks) ? 1 : 0);
            CHECKS.raises("sync(2, " + ticks + ")", ARGUMENT, () -> net.sync(2, ticks) ? 1 : 0);
        }
        CHECKS.same("wrong calls take no number", net.count(5), 2);
        CHECKS.same("wrong calls leave the alarm", net.when(2, 0), 5);
        CHECKS.same("wrong calls leave the sync", net.when(2, 1), 6);
    }

    private static void timersAreApart() {
        NetWires net = new NetWires();
        for (int endpoint = 0; endpoint < 16; endpoint++) {
            CHECKS.fails("alarm of " + endpoint, net.alarm(endpoint, 100 - endpoint));
            CHECKS.fails("sync of " + endpoint, net.sync(endpoint, 200 - endpoint));
        }
        CHECKS.holds("noAlarm(7)", net.noAlarm(7));
        CHECKS.holds("noSync(8)", net.noSync(8));
        for (int endpoint = 0; endpoint < 16; endpoint++) {
            int alarm = endpoint == 7 ? NetWires.NONE : 100 - endpoint;
            int sync = endpoint == 8 ? NetWires.NONE : 200 - endpoint;
            CHECKS.same("when the alarm of " + endpoint + " is", net.when(endpoint, 0), alarm);
            CHECKS.same("when the sync of " + endpoint + " is", net.when(endpoint, 1), sync);
        }
        for (int endpoint = 15; endpoint >= 0; endpoint--) {
            if (endpoint != 7) {
                CHECKS.same("alarms by their times", net.step(), 32 + endpoint);
            }
        }
        CHECKS.same("all syncs", net.run(1000), 15);
    }

    private static void orderOfEvents() {
        NetWires net = new NetWires();
        net.sync(1, 3);
        net.send(4, 5);
        net.alarm(2, 3);
        net.alarm(3, 2);
        net.send(6, 7);
        net.sync(0, 0);
        int[] due = {48, 35, 49, 5, 34, 7};
        int[] times = {0, 2, 3, 3, 3, 3};
        for (int i = 0; i < due.length; i++) {
            CHECKS.same("step " + i, net.step(), due[i]);
            CHECKS.same("NOW after step " + i, net.count(0), times[i]);
        }
        CHECKS.same("no more", net.step(), NetWires.NONE);
        CHECKS.same("NOW stays", net.count(0), 3);
    }

    private static void anewTakesANewNumber() {
        NetWires net = new NetWires();
        net.alarm(0, 5);
        net.alarm(1, 5);
        net.alarm(0, 5);
        CHECKS.same("numbers are never given again", net.count(5), 3);
        CHECKS.same("the older number first", net.step(), 33);
        CHECKS.same("then the one made anew", net.step(), 32);
        CHECKS.same("its number", net.happened(0, 2), 2);
        net.noAlarm(0);
        net.sync(0, 1);
        net.noSync(0);
        net.sync(0, 1);
        net.step();
        CHECKS.same("a number that was taken away", net.happened(0, 2), 4);
        CHECKS.same("what was made anew did not happen", net.count(4), 3);
    }

    private static void steps() {
        NetWires net = new NetWires();
        for (int endpoint = 0; endpoint < 16; endpoint++) {
            net.send(0, endpoint);
            CHECKS.same("a message to " + endpoint, net.step(), endpoint);
            net.send(0, endpoint);
            net.down(1 << endpoint);
            CHECKS.same("one that is lost to " + endpoint, net.step(), 16 + endpoint);
            net.alarm(endpoint, 1);
            CHECKS.same("the alarm of one that is down", net.step(), 32 + endpoint);
            net.sync(endpoint, 1);
            CHECKS.same("the sync of one that is down", net.step(), 48 + endpoint);
            net.down(0);
        }
        CHECKS.same("NOW", net.count(0), 16 * 8);
        CHECKS.same("events", net.count(4), 64);
    }

    private static void runs() {
        NetWires net = new NetWires();
        CHECKS.same("run(1000) of nothing", net.run(1000), 0);
        CHECKS.same("NOW is that then", net.count(0), 1000);
        net.alarm(0, 0);
        net.alarm(1, 9);
        net.alarm(2, 10);
        net.alarm(3, 11);
        CHECKS.same("run(10), that time too", net.run(10), 3);
        CHECKS.same("NOW", net.count(0), 1010);
        CHECKS.same("the last that happened", net.happened(0, 0), 34);
        CHECKS.same("its time", net.happened(0, 1), 1010);
        CHECKS.same("the one before", net.happened(1, 1), 1009);
        CHECKS.same("the one left", net.when(3, 0), 1011);
        CHECKS.same("run(1)", net.run(1), 1);
        CHECKS.same("run(1) of nothing", net.run(1), 0);
        CHECKS.same("NOW", net.count(0), 1012);
        CHECKS.same("events", net.count(4), 4);
    }

    private static void wrongRuns() {
        NetWires net = new NetWires();
        net.alarm(0, 0);
        for (int n : new int[] {0, -1, 1001, Integer.MIN_VALUE, Integer.MAX_VALUE}) {
            CHECKS.raises("run(" + n + ")", ARGUMENT, () -> net.run(n));
        }
        CHECKS.same("NOW", net.count(0), 0);
        CHECKS.same("nothing happened", net.count(4), 0);
    }

    private static void histories() {
        NetWires net = new NetWires();
        net.send(9, 4);
        net.step();
        net.alarm(5, 2);
        net.step();
        net.send(8, 6);
        net.part(1 << 8);
        net.step();
        net.sync(7, 1);
        net.step();
        int[][] due = {{55, 9, 3, -1}, {22, 8, 2, 8}, {37, 5, 1, -1}, {4, 3, 0, 9}};
        for (int k = 0; k < 4; k++) {
            for (int what = 0; what < 4; what++) {
                CHECKS.same("happened(" + k + ", " + what + ")", net.happened(k, what), due[k][what]);
            }
            CHECKS.same("happened(" + k + ", 4)", net.happened(k, 4), NetWires.NONE);
            CHECKS.same("happened(" + k + ", -1)", net.happened(k, -1), NetWires.NONE);
        }
        for (int k : new int[] {-1, 4, 31, 32, Integer.MIN_VALUE, Integer.MAX_VALUE}) {
            CHECKS.same("happened(" + k + ", 0)", net.happened(k, 0), NetWires.NONE);
        }
    }

    private static void historyForgets() {
        NetWires net = new NetWires();
        for (int i = 0; i < 40; i++) {
            net.alarm(i % 16, 1);
            net.step();
            CHECKS.same("the oldest kept", net.happened(Math.min(i, 31), 2), Math.max(0, i - 31));
            CHECKS.same("one too many", net.happened(Math.min(i + 1, 32), 2), NetWires.NONE);
        }
        for (int k = 0; k < 32; k++) {
            CHECKS.same("happened(" + k + ", 0)", net.happened(k, 0), 32 + (39 - k) % 16);
            CHECKS.same("happened(" + k + ", 1)", net.happened(k, 1), 40 - k);
        }
        CHECKS.same("events that happened", net.count(4), 40);
    }

    private static void whens() {
        NetWires net = new NetWires();
        net.run(7);
        net.alarm(0, 1);
        net.sync(0, 2);
        CHECKS.same("when(0, 0)", net.when(0, 0), 8);
        CHECKS.same("when(0, 1)", net.when(0, 1), 9);
        net.run(2);
        CHECKS.same("when(0, 0) behind it", net.when(0, 0), NetWires.NONE);
        CHECKS.same("when(0, 1) behind it", net.when(0, 1), NetWires.NONE);
        for (int endpoint : NO_ENDPOINTS) {
            CHECKS.raises("when(" + endpoint + ", 0)", INDEX, () -> net.when(endpoint, 0));
        }
        for (int what : new int[] {-1, 2, Integer.MIN_VALUE, Integer.MAX_VALUE}) {
            CHECKS.raises("when(0, " + what + ")", INDEX, () -> net.when(0, what));
        }
    }
}
