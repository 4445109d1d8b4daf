/** The edges that promises 4 to 9 name (alarm, noAlarm, sync, noSync, step, run), a test for each sentence. */
public final class EdgesOfTimeTest {
    private static final Checks CHECKS = new Checks();

    public static void main(String[] args) {
        for (Timer timer : new Timer[] {new Alarm(), new Sync()}) {
            timerTests(timer);
        }
        CHECKS.test("Promise 8: 0 .. 15: a message arrives at this endpoint", EdgesOfTimeTest::messagesArrive);
        CHECKS.test("Promise 8: 16 more: it is lost as it arrives", EdgesOfTimeTest::messagesAreLost);
        CHECKS.test("Promise 8: 32 more: the alarm; 48 more: the sync.", EdgesOfTimeTest::timersRing);
        CHECKS.test("Promise 8: The next event happens", EdgesOfTimeTest::oneEventAStep);
        CHECKS.test("Promise 8: NONE, when there is none.", EdgesOfTimeTest::noneToCome);
        CHECKS.test("Promise 9: All events up to NOW + n (1 .. 1000), that time too, happen", EdgesOfTimeTest::thatTimeToo);
        CHECKS.test("Promise 9: NOW is that then (events or not)", EdgesOfTimeTest::nowBehindARun);
        CHECKS.test("Promise 9: how many there were.", EdgesOfTimeTest::howManyThereWere);
        CHECKS.test("Promise 9: how many there were (what is lost as it arrives too)", EdgesOfTimeTest::lostOnesHappenToo);
        CHECKS.test("Promise 9: IllegalArgumentException, when n is none of these.", EdgesOfTimeTest::wrongRuns);
        CHECKS.end();
    }

    /** What promises 4, 5 and 19 say of alarms, and 6, 7 and 19 of syncs. */
    private abstract static class Timer {
        final String name;
        final int set;
        final int unset;
        final int what;
        final int answer;

        Timer(String name, int set, int what, int answer) {
            this.name = name;
            this.set = set;
            this.unset = set + 1;
            this.what = what;
            this.answer = answer;
        }

        abstract boolean make(NetWires net, int endpoint, int ticks);

        abstract boolean drop(NetWires net, int endpoint);

        abstract void makeOther(NetWires net, int endpoint, int ticks);
    }

    private static final class Alarm extends Timer {
        Alarm() {
            super("alarm", 4, 0, 32);
        }

        @Override
        boolean make(NetWires net, int endpoint, int ticks) {
            return net.alarm(endpoint, ticks);
        }

        @Override
        boolean drop(NetWires net, int endpoint) {
            return net.noAlarm(endpoint);
        }

        @Override
        void makeOther(NetWires net, int endpoint, int ticks) {
            net.sync(endpoint, ticks);
        }
    }

    private static final class Sync extends Timer {
        Sync() {
            super("sync", 6, 1, 48);
        }

        @Override
        boolean make(NetWires net, int endpoint, int ticks) {
            return net.sync(endpoint, ticks);
        }

        @Override
        boolean drop(NetWires net, int endpoint) {
            return net.noSync(endpoint);
        }

        @Override
        void makeOther(NetWires net, int endpoint, int ticks) {
            net.alarm(endpoint, ticks);
        }
    }

    private static void timerTests(Timer timer) {
        String set = "Promise " + timer.set + " (" + timer.name + "): ";
        String unset = "Promise " + timer.unset + " (no " + timer.name + "): ";
        CHECKS.test(set + "An alarm is made for NOW + ticks (0 .. 100000)", () -> firstAndLastTicks(timer));
        CHECKS.test(set + "whether there was one.", () -> whetherThereWasOne(timer));
        CHECKS.test(set + "IndexOutOfBoundsException, when there is no such endpoint", () -> makeNoEndpoint(timer));
        CHECKS.test(set + "IllegalArgumentException, when ticks are none of these.", () -> wrongTicks(timer));
        CHECKS.test(set + "IndexOutOfBoundsException (named first) when both are so", () -> bothWrong(timer));
        CHECKS.test(set + "what is refused changes nothing", () -> refusedMakesNothing(timer));
        CHECKS.test(unset + "There is no alarm of an endpoint any more", () -> noneAnyMore(timer));
        CHECKS.test(unset + "whether there was one.", () -> whetherThereWasOneToDrop(timer));
        CHECKS.test(unset + "IndexOutOfBoundsException, when there is no such endpoint.", () -> dropNoEndpoint(timer));
    }

    private static void firstAndLastTicks(Timer timer) {
        for (int start : new int[] {0, 1000}) {
            for (int ticks : new int[] {0, 1, 99999, 100000}) {
                NetWires net = new NetWires();
                if (start > 0) {
                    net.run(start);
                }
                timer.make(net, 5, ticks);
                CHECKS.same(timer.name + " in " + ticks, net.when(5, timer.what), start + ticks);
                CHECKS.same("it happens", net.step(), timer.answer + 5);
                CHECKS.same("NOW", net.count(0), start + ticks);
            }
        }
    }

    private static void whetherThereWasOne(Timer timer) {
        NetWires net = new NetWires();
        timer.makeOther(net, 0, 1);
        CHECKS.fails("the first", timer.make(net, 0, 0));
        CHECKS.holds("another", timer.make(net, 0, 0));
        CHECKS.holds("a third", timer.make(net, 0, 50));
        CHECKS.fails("of another endpoint", timer.make(net, 15, 0));
        timer.drop(net, 0);
        CHECKS.fails("behind one that was taken away", timer.make(net, 0, 0));
        net.run(1);
        CHECKS.fails("behind one that happened", timer.make(net, 0, 0));
    }

    private static void makeNoEndpoint(Timer timer) {
        NetWires net = new NetWires();
        for (int e : Edges.beyond(0, 15)) {
            CHECKS.raises(timer.name + " of " + e, Edges.INDEX, () -> Edges.bit(timer.make(net, e, 1)));
        }
        CHECKS.fails("of 0", timer.make(net, 0, 1));
        CHECKS.fails("of 15", timer.make(net, 15, 1));
    }

    private static void wrongTicks(Timer timer) {
        NetWires net = new NetWires();
        for (int ticks : Edges.beyond(0, 100000)) {
            CHECKS.raises(timer.name + " in " + ticks, Edges.ARGUMENT, () -> Edges.bit(timer.make(net, 3, ticks)));
        }
        net.run(1000);
        CHECKS.raises("not before NOW", Edges.ARGUMENT, () -> Edges.bit(timer.make(net, 3, -1)));
        CHECKS.raises("not at 100001", Edges.ARGUMENT, () -> Edges.bit(timer.make(net, 3, 100001)));
    }

    private static void bothWrong(Timer timer) {
        NetWires net = new NetWires();
        for (int e : Edges.beyond(0, 15)) {
            CHECKS.raises(timer.name + " of " + e + " in -1", Edges.INDEX, () -> Edges.bit(timer.make(net, e, -1)));
            CHECKS.raises(timer.name + " of " + e + " in 100001", Edges.INDEX, () -> Edges.bit(timer.make(net, e, 100001)));
        }
    }

    private static void refusedMakesNothing(Timer timer) {
        NetWires net = new NetWires();
        net.run(5);
        timer.make(net, 3, 9);
        net.send(0, 1);
        String before = Edges.state(net);
        for (int ticks : Edges.beyond(0, 100000)) {
            CHECKS.raises(timer.name + " in " + ticks, Edges.ARGUMENT, () -> Edges.bit(timer.make(net, 3, ticks)));
            CHECKS.raises(timer.name + " in " + ticks, Edges.ARGUMENT, () -> Edges.bit(timer.make(net, 4, ticks)));
        }
        for (int e : Edges.beyond(0, 15)) {
            CHECKS.raises(timer.name + " of " + e, Edges.INDEX, () -> Edges.bit(timer.make(net, e, 1)));
            CHECKS.raises("no " + timer.name + " of " + e, Edges.INDEX, () -> Edges.bit(timer.drop(net, e)));
        }
        CHECKS.sameText("the state", Edges.state(net), before);
        CHECKS.same("what happens then", net.run(100), 2);
    }

    private static void noneAnyMore(Timer timer) {
        NetWires net = new NetWires();
        for (int e = 0; e < 16; e++) {
            timer.make(net, e, 4);
            timer.makeOther(net, e, 4);
        }
        timer.drop(net, 0);
        timer.drop(net, 15);
        CHECKS.same("when that of 0 is", net.when(0, timer.what), Edges.NONE);
        CHECKS.same("when that of 15 is", net.when(15, timer.what), Edges.NONE);
        CHECKS.same("the other kind of 0 stays", net.when(0, 1 - timer.what), 4);
        CHECKS.same("that of 1 stays", net.when(1, timer.what), 4);
        CHECKS.same("that of 14 stays", net.when(14, timer.what), 4);
        CHECKS.same("all others happen", net.run(4), 30);
        NetWires anew = new NetWires();
        timer.make(anew, 3, 4);
        timer.make(anew, 3, 6);
        timer.drop(anew, 3);
        CHECKS.same("nor the one before it was made anew", anew.run(10), 0);
    }

    private static void whetherThereWasOneToDrop(Timer timer) {
        NetWires net = new NetWires();
        timer.makeOther(net, 0, 0);
        CHECKS.fails("none yet", timer.drop(net, 0));
        timer.make(net, 0, 100000);
        CHECKS.holds("one", timer.drop(net, 0));
        CHECKS.fails("none any more", timer.drop(net, 0));
        timer.make(net, 0, 0);
        CHECKS.holds("one for NOW", timer.drop(net, 0));
        timer.make(net, 0, 1);
        net.run(1);
        CHECKS.fails("one that happened", timer.drop(net, 0));
        timer.make(net, 0, 1);
        CHECKS.fails("one of another endpoint", timer.drop(net, 1));
        CHECKS.same("no number is taken by it", net.count(5), 5);
    }

    private static void dropNoEndpoint(Timer timer) {
        NetWires net = new NetWires();
        for (int e : Edges.beyond(0, 15)) {
            CHECKS.raises("no " + timer.name + " of " + e, Edges.INDEX, () -> Edges.bit(timer.drop(net, e)));
        }
        CHECKS.fails("of 0", timer.drop(net, 0));
        CHECKS.fails("of 15", timer.drop(net, 15));
    }

    private static void messagesArrive() {
        NetWires net = new NetWires();
        for (int e = 0; e < 16; e++) {
            net.send(15 - e, e);
            CHECKS.same("at " + e, net.step(), e);
        }
    }

    private static void messagesAreLost() {
        NetWires net = new NetWires();
        for (int e = 0; e < 16; e++) {
            net.send(15 - e, e);
            net.down(1 << e);
            CHECKS.same(e + " is down", net.step(), 16 + e);
            net.down(0);
            net.send(15 - e, e);
            net.part(1 << e);
            CHECKS.same(e + " is parted off", net.step(), 16 + e);
            net.part(0);
        }
        CHECKS.same("lost", net.count(3), 32);
        CHECKS.same("they happened all the same", net.count(4), 32);
    }

    private static void timersRing() {
        NetWires net = new NetWires();
        net.down(65535);
        net.part(0x5555);
        for (int e = 0; e < 16; e++) {
            net.alarm(e, 1);
            CHECKS.same("the alarm of " + e, net.step(), 32 + e);
            net.sync(e, 1);
            CHECKS.same("the sync of " + e, net.step(), 48 + e);
        }
        CHECKS.same("none is lost", net.count(3), 0);
    }

    private static void oneEventAStep() {
        NetWires net = new NetWires();
        net.alarm(1, 2);
        net.alarm(2, 2);
        net.sync(1, 2);
        for (int i = 1; i <= 3; i++) {
            net.step();
            CHECKS.same("events that happened", net.count(4), i);
        }
        CHECKS.same("the alarm of 1", net.when(1, 0), Edges.NONE);
        CHECKS.same("none is left", net.step(), Edges.NONE);
    }

    private static void noneToCome() {
        NetWires net = new NetWires();
        CHECKS.same("at first", net.step(), Edges.NONE);
        CHECKS.sameText("the state", Edges.state(net), Edges.state(new NetWires()));
        net.feed(1, 3);
        net.send(0, 1);
        net.run(7);
        net.feed(1, 2);
        String before = Edges.state(net);
        CHECKS.same("behind the last", net.step(), Edges.NONE);
        CHECKS.same("once more", net.step(), Edges.NONE);
        CHECKS.sameText("the state", Edges.state(net), before);
    }

    private static void thatTimeToo() {
        for (int n : new int[] {1, 2, 999, 1000}) {
            NetWires net = new NetWires();
            net.run(3);
            net.alarm(0, 0);
            net.alarm(1, n - 1);
            net.sync(1, n);
            net.delay(0, 1, n);
            net.send(0, 1);
            net.alarm(2, n + 1);
            CHECKS.same("run(" + n + ")", net.run(n), 4);
            CHECKS.same("the last of them", net.happened(0, 0), 1);
            CHECKS.same("its time", net.happened(0, 1), 3 + n);
            CHECKS.same("one later stays", net.when(2, 0), 4 + n);
            CHECKS.same("run(1)", net.run(1), 1);
        }
    }

    private static void nowBehindARun() {
        NetWires net = new NetWires();
        net.run(1);
        CHECKS.same("run(1) without events", net.count(0), 1);
        net.run(1000);
        CHECKS.same("run(1000) without events", net.count(0), 1001);
        net.alarm(0, 4);
        net.run(10);
        CHECKS.same("with one before its end", net.count(0), 1011);
        net.alarm(0, 10);
        net.run(10);
        CHECKS.same("with one at its end", net.count(0), 1021);
        net.alarm(0, 11);
        net.run(10);
        CHECKS.same("with one behind its end", net.count(0), 1031);
        CHECKS.same("that one's time", net.when(0, 0), 1032);
    }

    private static void howManyThereWere() {
        NetWires net = new NetWires();
        CHECKS.same("none", net.run(1000), 0);
        net.alarm(0, 1000);
        CHECKS.same("one to come", net.run(999), 0);
        CHECKS.same("one", net.run(1), 1);
        Edges.fill(net, 200);
        for (int e = 0; e < 16; e++) {
            net.alarm(e, e);
            net.sync(e, 1000 - e);
        }
        CHECKS.same("all that there can be", net.run(1000), 232);
        CHECKS.same("events that happened", net.count(4), 233);
        CHECKS.same("none again", net.run(1000), 0);
    }

    private static void lostOnesHappenToo() {
        NetWires net = new NetWires();
        net.send(0, 1);
        net.send(0, 2);
        net.send(0, 3);
        net.down(2);
        net.part(4);
        CHECKS.same("run(3)", net.run(3), 3);
        CHECKS.same("lost", net.count(3), 2);
        net.send(0, 3);
        net.meddle(0, 0, 0);
        net.alarm(0, 2);
        net.alarm(0, 3);
        CHECKS.same("what was meddled away or made anew did not", net.run(3), 1);
    }

    private static void wrongRuns() {
        NetWires net = new NetWires();
        net.alarm(0, 0);
        net.send(0, 1);
        String before = Edges.state(net);
        for (int n : Edges.beyond(1, 1000)) {
            CHECKS.raises("run(" + n + ")", Edges.ARGUMENT, () -> net.run(n));
        }
        CHECKS.sameText("the state", Edges.state(net), before);
        CHECKS.same("run(1000)", net.run(1000), 2);
        CHECKS.same("run(1)", net.run(1), 0);
    }
}
