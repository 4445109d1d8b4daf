/** The edges that promises 15 to 20 name (message, messageAt, happened, byteAt, when, count), a test for each sentence. */
public final class EdgesOfLooksTest {
    private static final Checks CHECKS = new Checks();

    public static void main(String[] args) {
        CHECKS.test("Promise 15: Of the k-th message in the order in which they will arrive", EdgesOfLooksTest::kthMessage);
        CHECKS.test("Promise 15: from (0), to (1), when it arrives (2), its event's number (3)", EdgesOfLooksTest::factsOfAMessage);
        CHECKS.test("Promise 15: how many bytes it has (4).", EdgesOfLooksTest::bytesOfAMessage);
        CHECKS.test("Promise 15: NONE, when there is none of these. (no such k)", EdgesOfLooksTest::noSuchMessage);
        CHECKS.test("Promise 15: NONE, when there is none of these. (no such what)", EdgesOfLooksTest::noSuchFactOfAMessage);
        CHECKS.test("Promise 16: Byte i (its value is 0 .. 255)", EdgesOfLooksTest::valuesOfBytes);
        CHECKS.test("Promise 16: of the k-th message likewise.", EdgesOfLooksTest::bytesOfTheKth);
        CHECKS.test("Promise 16: IndexOutOfBoundsException, when there is none. (no such k)", EdgesOfLooksTest::bytesOfNoMessage);
        CHECKS.test("Promise 16: IndexOutOfBoundsException, when there is none. (no such i)", EdgesOfLooksTest::noSuchByte);
        CHECKS.test("Promise 17: Of the latest 32 events that happened", EdgesOfLooksTest::latest32);
        CHECKS.test("Promise 17: Of the latest 32 events that happened (many of one run)", EdgesOfLooksTest::latest32OfARun);
        CHECKS.test("Promise 17: (what was meddled away, or made anew, did not)", EdgesOfLooksTest::didNotHappen);
        CHECKS.test("Promise 17: what step() answers for it (0)", EdgesOfLooksTest::answersOfSteps);
        CHECKS.test("Promise 17: its time (1), its number (2)", EdgesOfLooksTest::timesAndNumbers);
        CHECKS.test("Promise 17: whom a message came from, else NONE (3).", EdgesOfLooksTest::whomItCameFrom);
        CHECKS.test("Promise 17: NONE, when there is none of these. (no such k)", EdgesOfLooksTest::noSuchHappening);
        CHECKS.test("Promise 17: NONE, when there is none of these. (no such what)", EdgesOfLooksTest::noSuchFactOfAHappening);
        CHECKS.test("Promise 18: Byte i (its value is 0 .. 255)", EdgesOfLooksTest::valuesThatArrived);
        CHECKS.test("Promise 18: of the message that arrived last (and was not lost", EdgesOfLooksTest::lostOnesDoNotCount);
        CHECKS.test("Promise 18: it stays till another one arrives).", EdgesOfLooksTest::itStays);
        CHECKS.test("Promise 18: IndexOutOfBoundsException, when there is none.", EdgesOfLooksTest::noByteArrived);
        CHECKS.test("Promise 19: When the alarm (what 0) or the sync (1) of an endpoint is", EdgesOfLooksTest::whenItIs);
        CHECKS.test("Promise 19: or NONE.", EdgesOfLooksTest::whenItIsNot);
        CHECKS.test("Promise 19: IndexOutOfBoundsException, when there is no such endpoint", EdgesOfLooksTest::whenOfNoEndpoint);
        CHECKS.test("Promise 19: IndexOutOfBoundsException, when there is no such .. what.", EdgesOfLooksTest::whenOfNoWhat);
        CHECKS.test("Promise 20: NOW (0)", EdgesOfLooksTest::countNow);
        CHECKS.test("Promise 20: messages on their way (1)", EdgesOfLooksTest::countOnTheirWay);
        CHECKS.test("Promise 20: messages that were ever on their way (2; each copy by itself)", EdgesOfLooksTest::countEver);
        CHECKS.test("Promise 20: lost (3: before they were on their way", EdgesOfLooksTest::countLostBefore);
        CHECKS.test("Promise 20: lost (3: .. by meddling", EdgesOfLooksTest::countLostByMeddling);
        CHECKS.test("Promise 20: lost (3: .. and as they arrived)", EdgesOfLooksTest::countLostArriving);
        CHECKS.test("Promise 20: events that happened (4)", EdgesOfLooksTest::countHappened);
        CHECKS.test("Promise 20: the next event's number (5)", EdgesOfLooksTest::countNextNumber);
        CHECKS.test("Promise 20: bytes on the tape (6)", EdgesOfLooksTest::countTape);
        CHECKS.test("Promise 20: bytes of the message that arrived last (7).", EdgesOfLooksTest::countArrived);
        CHECKS.test("Promise 20: NONE for another what.", EdgesOfLooksTest::countOfNothing);
        CHECKS.test("Promises 15 to 20: a look changes nothing", EdgesOfLooksTest::looksChangeNothing);
        CHECKS.end();
    }

    private static void kthMessage() {
        NetWires net = new NetWires();
        net.alarm(0, 0);
        for (int to = 0; to < 16; to++) {
            net.delay(0, to, 16 - to / 2);
            net.send(0, to);
        }
        net.sync(0, 12);
        for (int k = 0; k < 16; k++) {
            int to = 14 - k / 2 * 2 + k % 2;
            CHECKS.same("message(" + k + ", 1)", net.message(k, 1), to);
            CHECKS.same("message(" + k + ", 2)", net.message(k, 2), 16 - to / 2);
        }
        for (int k = 0; k < 16; k++) {
            int first = net.message(0, 1);
            while (net.step() >= 32) {
                CHECKS.holds("timers are none of them:", net.count(1) == 16 - k);
            }
            CHECKS.same("they arrive so", net.happened(0, 0), first);
        }
    }

    private static void factsOfAMessage() {
        NetWires net = new NetWires();
        net.alarm(0, 9);
        for (int[] link : new int[][] {{0, 15}, {15, 0}, {7, 7}}) {
            net.send(link[0], link[1]);
            int k = net.count(1) - 1;
            CHECKS.same("from", net.message(k, 0), link[0]);
            CHECKS.same("to", net.message(k, 1), link[1]);
            CHECKS.same("when", net.message(k, 2), 3);
            CHECKS.same("number", net.message(k, 3), k + 1);
        }
    }

    private static void bytesOfAMessage() {
        for (int bytes : new int[] {0, 1, 8, 9, 2047, 2048}) {
            NetWires net = new NetWires();
            Edges.feedBytes(net, 0, bytes);
            net.send(0, 1);
            CHECKS.same("of " + bytes + " bytes", net.message(0, 4), bytes);
        }
    }

    private static void noSuchMessage() {
        NetWires net = new NetWires();
        for (int what = 0; what < 5; what++) {
            CHECKS.same("no message: message(0, " + what + ")", net.message(0, what), Edges.NONE);
        }
        net.alarm(0, 1);
        CHECKS.same("an alarm is none", net.message(0, 1), Edges.NONE);
        Edges.fill(net, 3);
        CHECKS.same("the last", net.message(2, 0), 0);
        CHECKS.same("one beyond", net.message(3, 0), Edges.NONE);
        for (int k : Edges.beyond(0, 199)) {
            for (int what = 0; what < 5; what++) {
                CHECKS.same("message(" + k + ", " + what + ")", net.message(k, what), Edges.NONE);
            }
        }
        net.run(3);
        CHECKS.same("all have arrived", net.message(0, 0), Edges.NONE);
        NetWires full = new NetWires();
        Edges.fill(full, 201);
        CHECKS.same("the last of 200", full.message(199, 3), 199);
        CHECKS.same("one beyond 200", full.message(200, 3), Edges.NONE);
    }

    private static void noSuchFactOfAMessage() {
        NetWires net = new NetWires();
        Edges.fill(net, 2);
        for (int what : Edges.beyond(0, 4)) {
            for (int k : new int[] {0, 1, 2, -1}) {
                CHECKS.same("message(" + k + ", " + what + ")", net.message(k, what), Edges.NONE);
            }
        }
    }

    private static void valuesOfBytes() {
        NetWires net = new NetWires();
        Edges.feedBytes(net, 0, 256);
        net.send(0, 1);
        for (int i = 0; i < 256; i++) {
            CHECKS.same("messageAt(0, " + i + ")", net.messageAt(0, i), i);
        }
    }

    private static void bytesOfTheKth() {
        NetWires net = new NetWires();
        net.alarm(0, 0);
        for (int to = 1; to <= 3; to++) {
            net.delay(0, to, 10 - to);
            net.feed(to * 0x50, 1);
            net.send(0, to);
        }
        for (int k = 0; k < 3; k++) {
            CHECKS.same("messageAt(" + k + ", 0)", net.messageAt(k, 0), (3 - k) * 0x50);
        }
        net.step();
        net.step();
        CHECKS.same("when the first has arrived", net.messageAt(0, 0), 0xA0);
        net.meddle(0, 2, 1000);
        CHECKS.same("when it was put off", net.messageAt(1, 0), 0xA0);
        CHECKS.same("the one before it", net.messageAt(0, 0), 0x50);
    }

    private static void bytesOfNoMessage() {
        NetWires net = new NetWires();
        CHECKS.raises("no message", Edges.INDEX, () -> net.messageAt(0, 0));
        net.alarm(0, 1);
        CHECKS.raises("an alarm is none", Edges.INDEX, () -> net.messageAt(0, 0));
        net.feed(1, 8);
        net.send(0, 1);
        CHECKS.raises("one beyond", Edges.INDEX, () -> net.messageAt(1, 0));
        for (int k : Edges.beyond(0, 199)) {
            CHECKS.raises("messageAt(" + k + ", 0)", Edges.INDEX, () -> net.messageAt(k, 0));
            CHECKS.raises("messageAt(" + k + ", -1)", Edges.INDEX, () -> net.messageAt(k, -1));
        }
        net.run(3);
        CHECKS.raises("it has arrived", Edges.INDEX, () -> net.messageAt(0, 0));
    }

    private static void noSuchByte() {
        for (int bytes : new int[] {0, 1, 8, 2048}) {
            NetWires net = new NetWires();
            Edges.feedBytes(net, 0, bytes);
            net.send(0, 1);
            if (bytes > 0) {
                CHECKS.same("the last of " + bytes, net.messageAt(0, bytes - 1), (bytes - 1) % 256);
            }
            CHECKS.raises("one beyond " + bytes, Edges.INDEX, () -> net.messageAt(0, bytes));
            for (int i : Edges.beyond(0, 2047)) {
                CHECKS.raises("messageAt(0, " + i + ")", Edges.INDEX, () -> net.messageAt(0, i));
            }
        }
    }

    private static void latest32() {
        NetWires net = new NetWires();
        for (int i = 1; i <= 70; i++) {
            net.alarm(i % 16, 1);
            net.step();
            int oldest = Math.min(i, 32) - 1;
            CHECKS.same("of " + i + ": the latest", net.happened(0, 1), i);
            CHECKS.same("of " + i + ": the oldest kept", net.happened(oldest, 1), i - oldest);
            CHECKS.same("of " + i + ": none beyond it", net.happened(oldest + 1, 1), Edges.NONE);
        }
        for (int k = 0; k < 32; k++) {
            CHECKS.same("happened(" + k + ", 0)", net.happened(k, 0), 32 + (70 - k) % 16);
            CHECKS.same("happened(" + k + ", 1)", net.happened(k, 1), 70 - k);
            CHECKS.same("happened(" + k + ", 2)", net.happened(k, 2), 69 - k);
        }
    }

    private static void latest32OfARun() {
        for (int many : new int[] {31, 32, 33, 64, 65, 200}) {
            NetWires net = new NetWires();
            for (int i = 0; i < many; i++) {
                net.send(i % 16, i * 3 % 16);
            }
            net.run(3);
            int kept = Math.min(many, 32);
            for (int k = 0; k < kept; k++) {
                int i = many - 1 - k;
                CHECKS.same("of " + many + ": happened(" + k + ", 0)", net.happened(k, 0), i * 3 % 16);
                CHECKS.same("of " + many + ": happened(" + k + ", 2)", net.happened(k, 2), i);
                CHECKS.same("of " + many + ": happened(" + k + ", 3)", net.happened(k, 3), i % 16);
            }
            CHECKS.same("of " + many + ": happened(" + kept + ", 0)", net.happened(kept, 0), Edges.NONE);
        }
    }

    private static void didNotHappen() {
        NetWires net = new NetWires();
        net.send(0, 1);
        net.meddle(0, 0, 0);
        net.alarm(2, 1);
        net.alarm(2, 2);
        net.sync(3, 1);
        net.sync(3, 3);
        net.alarm(4, 1);
        net.noAlarm(4);
        net.send(0, 5);
        net.meddle(0, 2, 5);
        net.part(1);
        net.send(0, 6);
        net.part(0);
        CHECKS.same("those that happen", net.run(100), 3);
        int[] answers = {5, 51, 34, Edges.NONE};
        for (int k = 0; k < answers.length; k++) {
            CHECKS.same("happened(" + k + ", 0)", net.happened(k, 0), answers[k]);
        }
        CHECKS.same("events that happened", net.count(4), 3);
    }

    private static void answersOfSteps() {
        NetWires net = new NetWires();
        for (int e : new int[] {0, 15}) {
            int[] due = {e, 16 + e, 32 + e, 48 + e};
            for (boolean byRun : new boolean[] {false, true}) {
                for (int kind = 0; kind < 4; kind++) {
                    makeOne(net, kind, e);
                    if (byRun) {
                        net.run(3);
                    } else {
                        CHECKS.same("step()", net.step(), due[kind]);
                    }
                    CHECKS.same("happened(0, 0)", net.happened(0, 0), due[kind]);
                    net.down(0);
                }
            }
        }
    }

    private static void makeOne(NetWires net, int kind, int endpoint) {
        if (kind < 2) {
            net.send(7, endpoint);
            net.down(kind << endpoint);
        } else if (kind == 2) {
            net.alarm(endpoint, 3);
        } else {
            net.sync(endpoint, 3);
        }
    }

    private static void timesAndNumbers() {
        NetWires net = new NetWires();
        net.alarm(0, 0);
        net.sync(0, 100000);
        net.send(0, 1);
        net.send(0, 1);
        net.down(2);
        for (int i = 0; i < 4; i++) {
            net.step();
        }
        int[] times = {100000, 3, 3, 0};
        int[] numbers = {1, 3, 2, 0};
        for (int k = 0; k < 4; k++) {
            CHECKS.same("happened(" + k + ", 1)", net.happened(k, 1), times[k]);
            CHECKS.same("happened(" + k + ", 2)", net.happened(k, 2), numbers[k]);
        }
        net.run(1000);
        CHECKS.same("its time, not NOW", net.happened(0, 1), 100000);
    }

    private static void whomItCameFrom() {
        NetWires net = new NetWires();
        for (int from : new int[] {0, 15}) {
            net.send(from, 7);
            net.step();
            CHECKS.same("a message", net.happened(0, 3), from);
            net.send(from, 7);
            net.down(1 << 7);
            net.step();
            net.down(0);
            CHECKS.same("one that was lost as it arrived", net.happened(0, 3), from);
            net.alarm(from, 1);
            net.step();
            CHECKS.same("an alarm", net.happened(0, 3), Edges.NONE);
            CHECKS.same("the message before it", net.happened(1, 3), from);
            net.sync(from, 1);
            net.step();
            CHECKS.same("a sync", net.happened(0, 3), Edges.NONE);
        }
    }

    private static void noSuchHappening() {
        NetWires net = new NetWires();
        net.send(0, 1);
        for (int what = 0; what < 4; what++) {
            CHECKS.same("none yet: happened(0, " + what + ")", net.happened(0, what), Edges.NONE);
        }
        net.step();
        for (int what = 0; what < 4; what++) {
            CHECKS.same("one: happened(1, " + what + ")", net.happened(1, what), Edges.NONE);
            for (int k : Edges.beyond(0, 31)) {
                CHECKS.same("one: happened(" + k + ", " + what + ")", net.happened(k, what), Edges.NONE);
            }
        }
        Edges.fill(net, 100);
        net.run(3);
        for (int what = 0; what < 4; what++) {
            CHECKS.holds("many: happened(31, " + what + "):", net.happened(31, what) != Edges.NONE);
            for (int k : Edges.beyond(0, 31)) {
                CHECKS.same("many: happened(" + k + ", " + what + ")", net.happened(k, what), Edges.NONE);
            }
        }
    }

    private static void noSuchFactOfAHappening() {
        NetWires net = new NetWires();
        Edges.fill(net, 40);
        net.run(3);
        for (int what : Edges.beyond(0, 3)) {
            for (int k : new int[] {0, 1, 30, 31, 32, -1}) {
                CHECKS.same("happened(" + k + ", " + what + ")", net.happened(k, what), Edges.NONE);
            }
        }
    }

    private static void valuesThatArrived() {
        NetWires net = new NetWires();
        Edges.feedBytes(net, 0, 256);
        net.send(0, 1);
        net.step();
        for (int i = 0; i < 256; i++) {
            CHECKS.same("byteAt(" + i + ")", net.byteAt(i), i);
        }
    }

    private static void sendByte(NetWires net, int to, int value) {
        net.feed(value, 1);
        net.send(0, to);
    }

    private static void lostOnesDoNotCount() {
        NetWires net = new NetWires();
        sendByte(net, 1, 11);
        net.step();
        sendByte(net, 2, 22);
        net.down(4);
        CHECKS.same("the one it comes to is down", net.step(), 18);
        CHECKS.same("byteAt(0)", net.byteAt(0), 11);
        net.down(0);
        sendByte(net, 3, 33);
        net.part(8);
        CHECKS.same("the two are parted", net.step(), 19);
        CHECKS.same("byteAt(0)", net.byteAt(0), 11);
        sendByte(net, 3, 44);
        CHECKS.same("byteAt(0)", net.byteAt(0), 11);
        net.part(0);
        sendByte(net, 4, 55);
        net.meddle(0, 0, 0);
        net.run(100);
        CHECKS.same("byteAt(0)", net.byteAt(0), 11);
        sendByte(net, 5, 66);
        sendByte(net, 6, 77);
        net.down(1 << 6);
        CHECKS.same("one that arrives and one that is lost", net.run(3), 2);
        CHECKS.same("byteAt(0)", net.byteAt(0), 66);
        CHECKS.same("bytes", net.count(7), 1);
    }

    private static void itStays() {
        NetWires net = new NetWires();
        net.delay(0, 2, 10);
        sendByte(net, 1, 200);
        sendByte(net, 2, 201);
        net.step();
        CHECKS.same("the first has arrived", net.byteAt(0), 200);
        net.feed(-1, 8);
        net.alarm(0, 0);
        net.sync(0, 0);
        net.run(1);
        CHECKS.same("what else happens", net.byteAt(0), 200);
        net.send(1, 2);
        net.meddle(0, 0, 0);
        net.part(0);
        CHECKS.same("what is sent and meddled with", net.byteAt(0), 200);
        CHECKS.same("the second arrives", net.step(), 2);
        CHECKS.same("it has arrived", net.byteAt(0), 201);
        net.run(1000);
        net.step();
        CHECKS.same("no other one arrives", net.byteAt(0), 201);
        sendByte(net, 3, 7);
        sendByte(net, 4, 8);
        net.run(3);
        CHECKS.same("the last of a run", net.byteAt(0), 8);
    }

    private static void noByteArrived() {
        NetWires net = new NetWires();
        CHECKS.raises("no message yet", Edges.INDEX, () -> net.byteAt(0));
        net.feed(9, 8);
        net.send(0, 1);
        CHECKS.raises("none has arrived yet", Edges.INDEX, () -> net.byteAt(0));
        net.step();
        CHECKS.same("the last byte", net.byteAt(7), 0);
        CHECKS.raises("one beyond", Edges.INDEX, () -> net.byteAt(8));
        for (int i : Edges.beyond(0, 2047)) {
            CHECKS.raises("byteAt(" + i + ")", Edges.INDEX, () -> net.byteAt(i));
        }
        net.send(0, 1);
        net.step();
        CHECKS.raises("one of 0 bytes has arrived", Edges.INDEX, () -> net.byteAt(0));
        Edges.feedBytes(net, 0, 2048);
        net.send(0, 1);
        net.step();
        CHECKS.same("the last of 2048", net.byteAt(2047), 255);
        CHECKS.raises("one beyond 2048", Edges.INDEX, () -> net.byteAt(2048));
    }

    private static void whenItIs() {
        NetWires net = new NetWires();
        net.run(1000);
        for (int e : new int[] {0, 15}) {
            net.alarm(e, 0);
            net.sync(e, 100000);
            CHECKS.same("when(" + e + ", 0)", net.when(e, 0), 1000);
            CHECKS.same("when(" + e + ", 1)", net.when(e, 1), 101000);
            net.alarm(e, 100000);
            net.sync(e, 0);
            CHECKS.same("when(" + e + ", 0) anew", net.when(e, 0), 101000);
            CHECKS.same("when(" + e + ", 1) anew", net.when(e, 1), 1000);
        }
        NetWires first = new NetWires();
        first.alarm(3, 0);
        CHECKS.same("at 0", first.when(3, 0), 0);
    }

    private static void whenItIsNot() {
        NetWires net = new NetWires();
        net.alarm(4, 1);
        net.sync(5, 1);
        net.send(0, 4);
        CHECKS.same("a sync of one that has an alarm", net.when(4, 1), Edges.NONE);
        CHECKS.same("an alarm of one that has a sync", net.when(5, 0), Edges.NONE);
        net.run(1);
        CHECKS.same("the alarm has rung", net.when(4, 0), Edges.NONE);
        CHECKS.same("the sync has been", net.when(5, 1), Edges.NONE);
        net.alarm(4, 1);
        net.noAlarm(4);
        net.sync(5, 1);
        net.noSync(5);
        CHECKS.same("the alarm was taken away", net.when(4, 0), Edges.NONE);
        CHECKS.same("the sync was taken away", net.when(5, 1), Edges.NONE);
    }

    private static void whenOfNoEndpoint() {
        NetWires net = new NetWires();
        for (int e : Edges.beyond(0, 15)) {
            for (int what : new int[] {0, 1, 2, -1}) {
                CHECKS.raises("when(" + e + ", " + what + ")", Edges.INDEX, () -> net.when(e, what));
            }
        }
    }

    private static void whenOfNoWhat() {
        NetWires net = new NetWires();
        net.alarm(0, 1);
        net.sync(15, 1);
        for (int what : Edges.beyond(0, 1)) {
            for (int e : new int[] {0, 7, 15}) {
                CHECKS.raises("when(" + e + ", " + what + ")", Edges.INDEX, () -> net.when(e, what));
            }
        }
    }

    private static void countNow() {
        NetWires net = new NetWires();
        CHECKS.same("at first", net.count(0), 0);
        net.alarm(0, 100000);
        CHECKS.same("when one is made", net.count(0), 0);
        net.run(1000);
        CHECKS.same("behind a run", net.count(0), 1000);
        net.step();
        CHECKS.same("behind a step", net.count(0), 100000);
        net.step();
        CHECKS.same("behind a step of nothing", net.count(0), 100000);
    }

    private static void countOnTheirWay() {
        NetWires net = new NetWires();
        net.alarm(0, 1);
        net.sync(0, 1);
        CHECKS.same("timers are none", net.count(1), 0);
        for (int i = 1; i <= 205; i++) {
            net.send(0, 1);
            CHECKS.same("sent " + i, net.count(1), Math.min(i, 200));
        }
        net.run(1);
        CHECKS.same("timers happened", net.count(1), 200);
        net.step();
        CHECKS.same("one arrived", net.count(1), 199);
        net.down(2);
        net.step();
        CHECKS.same("one was lost as it arrived", net.count(1), 198);
        net.meddle(0, 0, 0);
        CHECKS.same("one was meddled away", net.count(1), 197);
        net.meddle(0, 2, 9);
        CHECKS.same("one was put off", net.count(1), 197);
        net.meddle(0, 1, 0);
        CHECKS.same("one was sent once more", net.count(1), 198);
        net.run(1000);
        CHECKS.same("all have gone", net.count(1), 0);
    }

    private static void countEver() {
        NetWires net = new NetWires();
        net.noise(0, 1000, 0, 1);
        net.send(0, 1);
        CHECKS.same("each copy by itself", net.count(2), 2);
        net.noise(0, 0, 0, 1);
        net.meddle(0, 1, 0);
        CHECKS.same("one sent once more", net.count(2), 3);
        net.meddle(0, 2, 1);
        net.meddle(0, 2, 0);
        CHECKS.same("one put off is no more", net.count(2), 3);
        net.meddle(0, 0, 0);
        CHECKS.same("one meddled away was", net.count(2), 3);
        net.run(1000);
        CHECKS.same("those that arrived were", net.count(2), 3);
        net.part(1);
        net.send(0, 1);
        CHECKS.same("one that is parted is not", net.count(2), 3);
        net.part(0);
        Edges.fill(net, 203);
        CHECKS.same("nor one beyond 200", net.count(2), 203);
        net.alarm(0, 0);
        CHECKS.same("nor an alarm", net.count(2), 203);
    }

    private static void countLostBefore() {
        NetWires net = new NetWires();
        CHECKS.same("at first", net.count(3), 0);
        net.part(1);
        net.send(0, 1);
        CHECKS.same("parted", net.count(3), 1);
        net.part(0);
        net.noise(1000, 1000, 0, 1);
        net.send(0, 1);
        CHECKS.same("LOSS", net.count(3), 2);
        net.noise(0, 0, 0, 1);
        Edges.fill(net, 199);
        CHECKS.same("199 on their way", net.count(3), 2);
        net.noise(0, 1000, 0, 1);
        net.send(0, 1);
        CHECKS.same("the second of two beyond 200", net.count(3), 3);
        net.send(0, 1);
        CHECKS.same("both beyond 200", net.count(3), 5);
        net.noise(0, 0, 0, 1);
        net.send(0, 1);
        CHECKS.same("one beyond 200", net.count(3), 6);
        net.part(1);
        net.send(0, 1);
        CHECKS.same("parted and beyond 200", net.count(3), 7);
        net.noise(1000, 1000, 0, 1);
        net.send(2, 3);
        CHECKS.same("LOSS and beyond 200", net.count(3), 8);
    }

    private static void countLostByMeddling() {
        NetWires net = new NetWires();
        Edges.fill(net, 200);
        net.meddle(0, 1, 0);
        CHECKS.same("once more beyond 200", net.count(3), 1);
        net.meddle(0, 2, 5);
        CHECKS.same("put off", net.count(3), 1);
        net.meddle(0, 0, 0);
        CHECKS.same("meddled away", net.count(3), 2);
        net.meddle(199, 0, 0);
        CHECKS.same("no such message", net.count(3), 2);
        net.meddle(0, 1, 0);
        CHECKS.same("once more", net.count(3), 2);
    }

    private static void countLostArriving() {
        NetWires net = new NetWires();
        Edges.fill(net, 4);
        net.down(2);
        CHECKS.same("when it is down", net.count(3), 0);
        net.step();
        CHECKS.same("down", net.count(3), 1);
        net.part(1);
        net.step();
        CHECKS.same("down and parted", net.count(3), 2);
        net.down(0);
        net.step();
        CHECKS.same("parted", net.count(3), 3);
        net.part(0);
        net.step();
        CHECKS.same("neither", net.count(3), 3);
    }

    private static void countHappened() {
        NetWires net = new NetWires();
        Edges.fill(net, 200);
        net.alarm(0, 1);
        net.sync(0, 1);
        CHECKS.same("none yet", net.count(4), 0);
        net.step();
        CHECKS.same("one", net.count(4), 1);
        net.down(2);
        net.run(3);
        CHECKS.same("more than 32, lost or not", net.count(4), 202);
        net.step();
        net.run(1);
        CHECKS.same("no more", net.count(4), 202);
    }

    private static void countNextNumber() {
        NetWires net = new NetWires();
        CHECKS.same("at first", net.count(5), 0);
        net.alarm(0, 5);
        CHECKS.same("an alarm", net.count(5), 1);
        net.alarm(0, 5);
        CHECKS.same("an alarm anew", net.count(5), 2);
        net.noAlarm(0);
        CHECKS.same("no alarm", net.count(5), 2);
        net.sync(0, 5);
        CHECKS.same("a sync", net.count(5), 3);
        net.send(0, 1);
        CHECKS.same("a message", net.count(5), 4);
        net.meddle(0, 1, 0);
        CHECKS.same("once more", net.count(5), 5);
        net.meddle(0, 2, 0);
        CHECKS.same("put off", net.count(5), 6);
        net.meddle(0, 0, 0);
        CHECKS.same("meddled away", net.count(5), 6);
        net.part(1);
        net.send(0, 1);
        CHECKS.same("parted", net.count(5), 6);
        net.run(100);
        CHECKS.same("those that happened", net.count(5), 6);
        net.alarm(0, 1);
        net.step();
        CHECKS.same("it is the one that is given next", net.happened(0, 2), 6);
    }

    private static void countTape() {
        NetWires net = new NetWires();
        CHECKS.same("at first", net.count(6), 0);
        Edges.feedBytes(net, 0, 2047);
        CHECKS.same("one less than the most", net.count(6), 2047);
        net.feed(1, 1);
        CHECKS.same("the most", net.count(6), 2048);
        net.step();
        net.run(1);
        CHECKS.same("it stays", net.count(6), 2048);
        net.send(0, 1);
        CHECKS.same("it was sent", net.count(6), 0);
    }

    private static void countArrived() {
        NetWires net = new NetWires();
        CHECKS.same("at first", net.count(7), 0);
        Edges.feedBytes(net, 0, 2048);
        net.send(0, 1);
        CHECKS.same("on its way", net.count(7), 0);
        net.step();
        CHECKS.same("the most", net.count(7), 2048);
        net.feed(1, 2);
        net.send(0, 1);
        net.down(2);
        net.step();
        CHECKS.same("one was lost as it arrived", net.count(7), 2048);
        net.down(0);
        net.alarm(0, 1);
        net.step();
        CHECKS.same("an alarm rang", net.count(7), 2048);
        net.send(0, 1);
        net.step();
        CHECKS.same("one of 0 bytes", net.count(7), 0);
    }

    private static void countOfNothing() {
        NetWires net = new NetWires();
        net.send(0, 1);
        for (int what : Edges.beyond(0, 7)) {
            CHECKS.same("count(" + what + ")", net.count(what), Edges.NONE);
        }
    }

    private static void looksChangeNothing() {
        NetWires net = new NetWires();
        net.feed(1, 8);
        net.send(0, 1);
        net.step();
        net.feed(2, 8);
        net.send(0, 1);
        net.alarm(0, 7);
        net.feed(3, 8);
        String before = Edges.state(net);
        for (int i = -1; i < 9; i++) {
            int at = i;
            net.message(0, i);
            net.happened(0, i);
            net.count(i);
            if (i < 0 || i > 7) {
                CHECKS.raises("messageAt(0, " + i + ")", Edges.INDEX, () -> net.messageAt(0, at));
                CHECKS.raises("byteAt(" + i + ")", Edges.INDEX, () -> net.byteAt(at));
                CHECKS.raises("when(0, " + i + ")", Edges.INDEX, () -> net.when(0, at));
            }
        }
        CHECKS.sameText("the state", Edges.state(net), before);
    }
}
