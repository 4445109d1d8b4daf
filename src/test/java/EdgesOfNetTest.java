/** The edges that promises 10 to 12 and 14 name (delay, part, down, meddle), a test for each sentence. */
public final class EdgesOfNetTest {
    private static final Checks CHECKS = new Checks();

    public static void main(String[] args) {
        CHECKS.test("Promise 10: The delay of a link (of this direction)", EdgesOfNetTest::thisDirection);
        CHECKS.test("Promise 10: is ticks (0 .. 1000)", EdgesOfNetTest::firstAndLastDelay);
        CHECKS.test("Promise 10: from now on, for what is sent then", EdgesOfNetTest::delayFromNowOn);
        CHECKS.test("Promise 10: what it was.", EdgesOfNetTest::whatTheDelayWas);
        CHECKS.test("Promise 10: IndexOutOfBoundsException, when there is no such endpoint", EdgesOfNetTest::delayOfNoEndpoint);
        CHECKS.test("Promise 10: IllegalArgumentException, when ticks are none of these.", EdgesOfNetTest::wrongDelay);
        CHECKS.test("Promise 11: The set (0 .. 65535) of those that are parted off", EdgesOfNetTest::firstAndLastParted);
        CHECKS.test("Promise 11: from now on (instead of the one before)", EdgesOfNetTest::partedInstead);
        CHECKS.test("Promise 11: what it was.", EdgesOfNetTest::whatTheParted);
        CHECKS.test("Promise 11: IllegalArgumentException, when it is no such set.", EdgesOfNetTest::wrongParted);
        CHECKS.test("Promise 12: The set of those that are down likewise. (0 .. 65535)", EdgesOfNetTest::firstAndLastDown);
        CHECKS.test("Promise 12: likewise (instead of the one before)", EdgesOfNetTest::downInstead);
        CHECKS.test("Promise 12: likewise: what it was.", EdgesOfNetTest::whatTheDown);
        CHECKS.test("Promise 12: likewise: IllegalArgumentException, when it is no such set.", EdgesOfNetTest::wrongDown);
        CHECKS.test("Promise 14: The k-th message (from 0, in the order in which they will arrive)", EdgesOfNetTest::kthMessage);
        CHECKS.test("Promise 14: is lost (what 0)", EdgesOfNetTest::meddledAway);
        CHECKS.test("Promise 14: sent once more with the delay of its link", EdgesOfNetTest::onceMore);
        CHECKS.test("Promise 14: without noise", EdgesOfNetTest::onceMoreWithoutNoise);
        CHECKS.test("Promise 14: parted or not", EdgesOfNetTest::onceMorePartedOrNot);
        CHECKS.test("Promise 14: lost, if 200 are on their way", EdgesOfNetTest::onceMoreWhenFull);
        CHECKS.test("Promise 14: arrives by ticks (0 .. 1000, 0 too) later", EdgesOfNetTest::later);
        CHECKS.test("Promise 14: as a new event with a new number", EdgesOfNetTest::laterWithANewNumber);
        CHECKS.test("Promise 14: it is no message more", EdgesOfNetTest::laterIsNoMessageMore);
        CHECKS.test("Promise 14: whether there is a k-th one.", EdgesOfNetTest::whetherThereIsAKth);
        CHECKS.test("Promise 14: IllegalArgumentException, .. for another what", EdgesOfNetTest::anotherWhat);
        CHECKS.test("Promise 14: IllegalArgumentException, .. or ticks", EdgesOfNetTest::otherTicks);
        CHECKS.test("Promise 14: (ticks are 0 for what 0 and 1).", EdgesOfNetTest::ticksAreZero);
        CHECKS.test("Promise 14: IllegalArgumentException, first", EdgesOfNetTest::firstOfAll);
        CHECKS.test("Promise 14: what is refused changes nothing", EdgesOfNetTest::refusedChangesNothing);
        CHECKS.end();
    }

    private static void thisDirection() {
        NetWires net = new NetWires();
        net.delay(0, 15, 5);
        CHECKS.same("the other direction", net.delay(15, 0, 7), 3);
        CHECKS.same("this direction", net.delay(0, 15, 5), 5);
        CHECKS.same("0 to 14", net.delay(0, 14, 3), 3);
        CHECKS.same("1 to 15", net.delay(1, 15, 3), 3);
        CHECKS.same("1 to 0", net.delay(1, 0, 3), 3);
        net.send(0, 15);
        net.send(15, 0);
        net.send(15, 15);
        int[] when = {3, 5, 7};
        int[] to = {15, 15, 0};
        for (int k = 0; k < 3; k++) {
            CHECKS.same("when it arrives", net.message(k, 2), when[k]);
            CHECKS.same("where", net.message(k, 1), to[k]);
        }
    }

    private static void firstAndLastDelay() {
        for (int ticks : new int[] {0, 1, 999, 1000}) {
            NetWires net = new NetWires();
            CHECKS.same("delay(2, 3, " + ticks + ")", net.delay(2, 3, ticks), 3);
            net.run(10);
            net.send(2, 3);
            CHECKS.same("when it arrives", net.message(0, 2), 10 + ticks);
            net.step();
            CHECKS.same("NOW", net.count(0), 10 + ticks);
        }
    }

    private static void delayFromNowOn() {
        NetWires net = new NetWires();
        net.send(2, 3);
        net.delay(2, 3, 0);
        CHECKS.same("one sent before", net.message(0, 2), 3);
        net.send(2, 3);
        CHECKS.same("one sent then", net.message(0, 2), 0);
        CHECKS.same("one sent before, behind it", net.message(1, 2), 3);
        net.delay(2, 3, 1000);
        CHECKS.same("the first", net.step(), 3);
        CHECKS.same("NOW", net.count(0), 0);
        net.step();
        CHECKS.same("NOW", net.count(0), 3);
    }

    private static void whatTheDelayWas() {
        NetWires net = new NetWires();
        int[] ticks = {0, 1000, 1000, 3, 0};
        int before = 3;
        for (int t : ticks) {
            CHECKS.same("delay(9, 9, " + t + ")", net.delay(9, 9, t), before);
            before = t;
        }
    }

    private static void delayOfNoEndpoint() {
        NetWires net = new NetWires();
        for (int e : Edges.beyond(0, 15)) {
            for (int ticks : new int[] {0, 1000, -1, 1001}) {
                CHECKS.raises("delay(" + e + ", 0, " + ticks + ")", Edges.INDEX, () -> net.delay(e, 0, ticks));
                CHECKS.raises("delay(0, " + e + ", " + ticks + ")", Edges.INDEX, () -> net.delay(0, e, ticks));
            }
        }
        CHECKS.same("delay(0, 15, 3)", net.delay(0, 15, 3), 3);
        CHECKS.same("delay(1, 0, 3)", net.delay(1, 0, 3), 3);
        CHECKS.same("delay(15, 15, 3)", net.delay(15, 15, 3), 3);
    }

    private static void wrongDelay() {
        NetWires net = new NetWires();
        net.delay(4, 5, 8);
        for (int ticks : Edges.beyond(0, 1000)) {
            CHECKS.raises("delay(4, 5, " + ticks + ")", Edges.ARGUMENT, () -> net.delay(4, 5, ticks));
        }
        net.send(4, 5);
        CHECKS.same("it is as it was", net.message(0, 2), 8);
        CHECKS.same("and answers so", net.delay(4, 5, 0), 8);
    }

    private static void firstAndLastParted() {
        NetWires net = new NetWires();
        CHECKS.same("part(65535)", net.part(65535), 0);
        CHECKS.same("all are parted off", net.send(0, 15), 1);
        CHECKS.same("part(0)", net.part(0), 65535);
        CHECKS.same("nobody is", net.send(0, 15), 1);
        for (int e = 0; e < 16; e++) {
            net.part(1 << e);
            CHECKS.same("from the one that is", net.send(e, (e + 1) % 16), 0);
            CHECKS.same("to the one that is", net.send((e + 1) % 16, e), 0);
            CHECKS.same("between two that are not", net.send((e + 1) % 16, (e + 2) % 16), 1);
        }
    }

    private static void partedInstead() {
        NetWires net = new NetWires();
        net.part(1);
        net.part(2);
        CHECKS.same("one of the set before", net.send(0, 2), 1);
        CHECKS.same("one of this set", net.send(1, 2), 0);
        CHECKS.same("one of each", net.send(0, 1), 0);
        net.part(0);
        CHECKS.same("nobody any more", net.send(1, 2), 1);
    }

    private static void whatTheParted() {
        NetWires net = new NetWires();
        net.down(77);
        int before = 0;
        for (int set : new int[] {65535, 32768, 1, 0, 0, 65535}) {
            CHECKS.same("part(" + set + ")", net.part(set), before);
            before = set;
        }
    }

    private static void wrongParted() {
        NetWires net = new NetWires();
        net.part(1);
        for (int set : Edges.beyond(0, 65535)) {
            CHECKS.raises("part(" + set + ")", Edges.ARGUMENT, () -> net.part(set));
            CHECKS.same("parted as before", net.send(0, 1), 0);
        }
        CHECKS.same("the set is as it was", net.part(0), 1);
    }

    private static void firstAndLastDown() {
        NetWires net = new NetWires();
        CHECKS.same("down(65535)", net.down(65535), 0);
        for (int e = 0; e < 16; e++) {
            net.send(0, e);
            CHECKS.same("all are down", net.step(), 16 + e);
        }
        CHECKS.same("down(0)", net.down(0), 65535);
        for (int e = 0; e < 16; e++) {
            net.send(0, e);
            CHECKS.same("nobody is", net.step(), e);
            net.down(1 << e);
            net.send(e, (e + 1) % 16);
            CHECKS.same("to one that is not", net.step(), (e + 1) % 16);
            net.send(e, e);
            CHECKS.same("to the one that is", net.step(), 16 + e);
            net.down(0);
        }
    }

    private static void downInstead() {
        NetWires net = new NetWires();
        net.down(1);
        net.down(2);
        net.send(5, 0);
        CHECKS.same("one of the set before", net.step(), 0);
        net.send(5, 1);
        CHECKS.same("one of this set", net.step(), 17);
        net.send(5, 1);
        net.down(0);
        CHECKS.same("nobody any more", net.step(), 1);
    }

    private static void whatTheDown() {
        NetWires net = new NetWires();
        net.part(77);
        int before = 0;
        for (int set : new int[] {65535, 32768, 1, 0, 0, 65535}) {
            CHECKS.same("down(" + set + ")", net.down(set), before);
            before = set;
        }
    }

    private static void wrongDown() {
        NetWires net = new NetWires();
        net.down(2);
        for (int set : Edges.beyond(0, 65535)) {
            CHECKS.raises("down(" + set + ")", Edges.ARGUMENT, () -> net.down(set));
            net.send(0, 1);
            CHECKS.same("down as before", net.step(), 17);
        }
        CHECKS.same("the set is as it was", net.down(0), 2);
    }

    /** From 0 to 1, 2, 3, 4, for the times 40, 10, 10, 20, beside an alarm for 5 and a sync for 15. */
    private static NetWires fourMessages() {
        NetWires net = new NetWires();
        int[] delays = {40, 10, 10, 20};
        net.alarm(9, 5);
        for (int i = 0; i < 4; i++) {
            net.delay(0, i + 1, delays[i]);
            net.feed(100 + i, i + 1);
            net.send(0, i + 1);
        }
        net.sync(9, 15);
        return net;
    }

    private static void kthMessage() {
        int[] order = {2, 3, 4, 1};
        for (int k = 0; k < 4; k++) {
            NetWires net = fourMessages();
            CHECKS.holds("meddle(" + k + ", 0, 0)", net.meddle(k, 0, 0));
            int at = 0;
            for (int to : order) {
                if (to != order[k]) {
                    CHECKS.same("message(" + at + ", 1)", net.message(at, 1), to);
                    at++;
                }
            }
            CHECKS.same("no more than these", net.message(at, 1), Edges.NONE);
            CHECKS.same("the alarm stays", net.when(9, 0), 5);
            CHECKS.same("the sync stays", net.when(9, 1), 15);
        }
        NetWires full = new NetWires();
        Edges.fill(full, 200);
        CHECKS.holds("the last of 200", full.meddle(199, 2, 0));
        CHECKS.same("it is the one with the last number", full.message(199, 3), 200);
        CHECKS.same("the one before stays", full.message(198, 3), 198);
    }

    private static void meddledAway() {
        NetWires net = new NetWires();
        net.feed(1, 1);
        net.send(0, 1);
        CHECKS.holds("meddle(0, 0, 0)", net.meddle(0, 0, 0));
        CHECKS.same("on their way", net.count(1), 0);
        CHECKS.same("ever on their way", net.count(2), 1);
        CHECKS.same("lost", net.count(3), 1);
        CHECKS.same("no number is taken", net.count(5), 1);
        CHECKS.same("it does not arrive", net.step(), Edges.NONE);
        CHECKS.same("it did not happen", net.count(4), 0);
        CHECKS.same("no bytes of it", net.count(7), 0);
        CHECKS.fails("meddle(0, 0, 0) again", net.meddle(0, 0, 0));
    }

    private static void onceMore() {
        for (int ticks : new int[] {0, 3, 1000}) {
            NetWires net = new NetWires();
            net.feed(0xFE, 2);
            net.send(6, 7);
            net.run(2);
            net.delay(6, 7, ticks);
            CHECKS.holds("meddle(0, 1, 0)", net.meddle(0, 1, 0));
            int k = ticks == 0 ? 0 : 1;
            int[] due = {6, 7, 2 + ticks, 1, 2};
            for (int what = 0; what < 5; what++) {
                CHECKS.same("the new one's " + what, net.message(k, what), due[what]);
            }
            CHECKS.same("its first byte", net.messageAt(k, 0), 0xFE);
            CHECKS.same("the old one's time", net.message(1 - k, 2), 3);
            CHECKS.same("the old one's number", net.message(1 - k, 3), 0);
            CHECKS.same("ever on their way", net.count(2), 2);
            CHECKS.same("both arrive", net.run(1000), 2);
        }
    }

    private static void onceMoreWithoutNoise() {
        NetWires net = new NetWires();
        net.send(0, 1);
        net.noise(1000, 1000, 1000, 4);
        for (int i = 1; i <= 20; i++) {
            CHECKS.holds("meddle(0, 1, 0)", net.meddle(0, 1, 0));
            CHECKS.same("not lost, not twice", net.count(1), 1 + i);
            CHECKS.same("not late", net.message(i, 2), 3);
        }
        net.noise(0, 0, 1000, 4);
        net.meddle(0, 1, 0);
        net.send(0, 1);
        Edges.Draws draws = new Edges.Draws(4);
        draws.skip(2);
        CHECKS.same("nothing was drawn", net.message(22, 2), 3 + draws.next(1001));
    }

    private static void onceMorePartedOrNot() {
        for (int set : new int[] {1, 2, 3, 0}) {
            NetWires net = new NetWires();
            net.send(0, 1);
            net.part(set);
            CHECKS.holds("parted by " + set + ": meddle(0, 1, 0)", net.meddle(0, 1, 0));
            CHECKS.same("parted by " + set + ": on their way", net.count(1), 2);
            CHECKS.same("parted by " + set + ": lost", net.count(3), 0);
            CHECKS.same("parted by " + set + ": arriving", net.step(), set == 0 || set == 3 ? 1 : 17);
        }
    }

    private static void onceMoreWhenFull() {
        NetWires net = new NetWires();
        Edges.fill(net, 199);
        CHECKS.holds("199 on their way", net.meddle(198, 1, 0));
        CHECKS.same("then", net.count(1), 200);
        CHECKS.same("lost", net.count(3), 0);
        for (int i = 1; i <= 3; i++) {
            CHECKS.holds("200 on their way", net.meddle(199, 1, 0));
            CHECKS.same("still", net.count(1), 200);
            CHECKS.same("ever", net.count(2), 200);
            CHECKS.same("lost", net.count(3), i);
            CHECKS.same("numbers", net.count(5), 200);
        }
        net.meddle(0, 0, 0);
        net.meddle(0, 1, 0);
        CHECKS.same("room again", net.count(2), 201);
    }

    private static void later() {
        for (int ticks : new int[] {0, 1, 999, 1000}) {
            NetWires net = new NetWires();
            net.feed(0x99, 1);
            net.send(4, 5);
            net.run(1);
            net.delay(4, 5, 500);
            CHECKS.holds("meddle(0, 2, " + ticks + ")", net.meddle(0, 2, ticks));
            int[] due = {4, 5, 3 + ticks, 1, 1};
            for (int what = 0; what < 5; what++) {
                CHECKS.same("message(0, " + what + ")", net.message(0, what), due[what]);
            }
            CHECKS.same("its byte", net.messageAt(0, 0), 0x99);
            CHECKS.same("it arrives", net.step(), 5);
            CHECKS.same("NOW", net.count(0), 3 + ticks);
            CHECKS.same("once", net.step(), Edges.NONE);
        }
    }

    private static void laterWithANewNumber() {
        NetWires net = fourMessages();
        CHECKS.holds("meddle(0, 2, 0)", net.meddle(0, 2, 0));
        CHECKS.same("it comes behind its equal", net.message(0, 1), 3);
        CHECKS.same("it", net.message(1, 1), 2);
        CHECKS.same("its time", net.message(1, 2), 10);
        CHECKS.same("its new number", net.message(1, 3), 6);
        CHECKS.holds("meddle(0, 2, 10)", net.meddle(0, 2, 10));
        CHECKS.same("behind its new equal", net.message(2, 1), 3);
        CHECKS.same("its new number", net.message(2, 3), 7);
        CHECKS.same("the next number", net.count(5), 8);
        net.run(10);
        CHECKS.same("what happened has the new number", net.happened(0, 2), 6);
    }

    private static void laterIsNoMessageMore() {
        NetWires net = new NetWires();
        Edges.fill(net, 200);
        for (int i = 0; i < 5; i++) {
            CHECKS.holds("meddle(0, 2, 1)", net.meddle(0, 2, 1));
        }
        CHECKS.same("on their way", net.count(1), 200);
        CHECKS.same("ever on their way", net.count(2), 200);
        CHECKS.same("lost", net.count(3), 0);
        CHECKS.same("numbers", net.count(5), 205);
        CHECKS.same("no room by it", net.send(0, 1), 0);
        CHECKS.same("those at 3", net.run(3), 195);
        CHECKS.same("those at 4", net.run(1), 5);
    }

    private static void whetherThereIsAKth() {
        NetWires net = new NetWires();
        for (int what = 0; what < 3; what++) {
            CHECKS.fails("no message: meddle(0, " + what + ", 0)", net.meddle(0, what, 0));
        }
        Edges.fill(net, 2);
        net.alarm(0, 1);
        String before = Edges.state(net);
        for (int what = 0; what < 3; what++) {
            CHECKS.fails("meddle(2, " + what + ", 0)", net.meddle(2, what, 0));
            for (int k : Edges.beyond(0, 199)) {
                CHECKS.fails("meddle(" + k + ", " + what + ", 0)", net.meddle(k, what, 0));
            }
        }
        CHECKS.sameText("the state", Edges.state(net), before);
        CHECKS.holds("meddle(1, 2, 0)", net.meddle(1, 2, 0));
        CHECKS.holds("meddle(1, 0, 0)", net.meddle(1, 0, 0));
        CHECKS.fails("meddle(1, 0, 0) then", net.meddle(1, 0, 0));
        CHECKS.holds("meddle(0, 0, 0)", net.meddle(0, 0, 0));
        CHECKS.fails("meddle(0, 0, 0) then", net.meddle(0, 0, 0));
    }

    private static void anotherWhat() {
        NetWires net = new NetWires();
        net.send(0, 1);
        for (int what : Edges.beyond(0, 2)) {
            CHECKS.raises("meddle(0, " + what + ", 0)", Edges.ARGUMENT, () -> Edges.bit(net.meddle(0, what, 0)));
            CHECKS.raises("meddle(0, " + what + ", 5)", Edges.ARGUMENT, () -> Edges.bit(net.meddle(0, what, 5)));
        }
    }

    private static void otherTicks() {
        NetWires net = new NetWires();
        net.send(0, 1);
        for (int ticks : Edges.beyond(0, 1000)) {
            for (int what = 0; what < 3; what++) {
                int w = what;
                CHECKS.raises("meddle(0, " + w + ", " + ticks + ")", Edges.ARGUMENT, () -> Edges.bit(net.meddle(0, w, ticks)));
            }
        }
    }

    private static void ticksAreZero() {
        NetWires net = new NetWires();
        net.send(0, 1);
        for (int ticks : new int[] {1, -1, 2, 3, 999, 1000}) {
            CHECKS.raises("meddle(0, 0, " + ticks + ")", Edges.ARGUMENT, () -> Edges.bit(net.meddle(0, 0, ticks)));
            CHECKS.raises("meddle(0, 1, " + ticks + ")", Edges.ARGUMENT, () -> Edges.bit(net.meddle(0, 1, ticks)));
        }
        CHECKS.same("on their way", net.count(1), 1);
        CHECKS.holds("meddle(0, 1, 0)", net.meddle(0, 1, 0));
        CHECKS.holds("meddle(0, 0, 0)", net.meddle(0, 0, 0));
    }

    private static void firstOfAll() {
        NetWires net = new NetWires();
        int[][] wrong = {{3, 0}, {-1, 0}, {0, 1}, {1, 1}, {2, -1}, {2, 1001}};
        for (int[] w : wrong) {
            for (int k : new int[] {0, -1, 200, Integer.MIN_VALUE, Integer.MAX_VALUE}) {
                CHECKS.raises("no message: meddle(" + k + ", " + w[0] + ", " + w[1] + ")", Edges.ARGUMENT,
                    () -> Edges.bit(net.meddle(k, w[0], w[1])));
            }
        }
    }

    private static void refusedChangesNothing() {
        NetWires net = fourMessages();
        net.noise(0, 0, 1000, 2);
        String before = Edges.state(net);
        int[][] wrong = {{3, 0}, {-1, 0}, {0, 1}, {1, 1}, {2, -1}, {2, 1001}};
        for (int[] w : wrong) {
            for (int k = 0; k < 5; k++) {
                int at = k;
                CHECKS.raises("meddle(" + k + ", " + w[0] + ", " + w[1] + ")", Edges.ARGUMENT,
                    () -> Edges.bit(net.meddle(at, w[0], w[1])));
            }
        }
        CHECKS.sameText("the state", Edges.state(net), before);
    }
}
