/** The edges that promises 2 (feed) and 3 (send) name, and what messages say, a test for each sentence. */
public final class EdgesOfTapeTest {
    private static final Checks CHECKS = new Checks();

    public static void main(String[] args) {
        CHECKS.test("what they say is kept until they arrive.", EdgesOfTapeTest::whatTheySayIsKept);
        CHECKS.test("what they say is kept until they arrive. (200 messages)", EdgesOfTapeTest::whatAllSayIsKept);
        CHECKS.test("Promise 2: The n lowest bytes of eight", EdgesOfTapeTest::lowestBytes);
        CHECKS.test("Promise 2: come behind the tape", EdgesOfTapeTest::behindTheTape);
        CHECKS.test("Promise 2: the lowest first", EdgesOfTapeTest::lowestFirst);
        CHECKS.test("Promise 2: how many it has.", EdgesOfTapeTest::howMany);
        CHECKS.test("Promise 2: IllegalArgumentException, when n is not 1 .. 8", EdgesOfTapeTest::wrongN);
        CHECKS.test("Promise 2: IllegalStateException, when there would be more than 2048.", EdgesOfTapeTest::tooMany);
        CHECKS.test("Promise 2: IllegalStateException (the tape is as it was then)", EdgesOfTapeTest::tooManyChangeNothing);
        CHECKS.test("Promise 2: IllegalArgumentException (named first) when both are so", EdgesOfTapeTest::wrongNOfAFullTape);
        CHECKS.test("Promise 3: perhaps of 0 bytes", EdgesOfTapeTest::noBytes);
        CHECKS.test("Promise 3: which is empty then, in any case", EdgesOfTapeTest::emptyInAnyCase);
        CHECKS.test("Promise 3: also if this throws", EdgesOfTapeTest::emptyIfItThrows);
        CHECKS.test("Promise 3: from may be to", EdgesOfTapeTest::fromMayBeTo);
        CHECKS.test("Promise 3: how many messages are on their way by it (0 .. 2).", EdgesOfTapeTest::noneOneTwo);
        CHECKS.test("Promise 3: IndexOutOfBoundsException, when there is no such endpoint.", EdgesOfTapeTest::noEndpoint);
        CHECKS.test("Promise 3: IndexOutOfBoundsException (nothing is sent, lost or drawn then)", EdgesOfTapeTest::noEndpointNoMessage);
        CHECKS.end();
    }

    private static void whatTheySayIsKept() {
        NetWires net = new NetWires();
        net.delay(0, 1, 1000);
        Edges.feedBytes(net, 0, 2048);
        net.send(0, 1);
        net.feed(0x5555555555555555L, 8);
        CHECKS.same("when the tape is fed anew", net.messageAt(0, 7), 7);
        net.send(0, 2);
        net.meddle(1, 2, 1000);
        net.meddle(1, 1, 0);
        net.step();
        CHECKS.same("when another one arrives", net.messageAt(0, 7), 7);
        net.feed(0x6666666666666666L, 8);
        net.step();
        CHECKS.same("when it has arrived once", net.byteAt(7), 7);
        CHECKS.same("its last byte", net.byteAt(2047), 255);
        net.part(1);
        CHECKS.same("the other one is lost", net.step(), 17);
        CHECKS.same("the first one's bytes stay", net.byteAt(2046), 254);
    }

    private static void whatAllSayIsKept() {
        NetWires net = new NetWires();
        for (int i = 0; i < 200; i++) {
            net.feed(i, 1);
            net.send(0, 1);
        }
        for (int k = 0; k < 200; k += 5) {
            CHECKS.same("messageAt(" + k + ", 0)", net.messageAt(k, 0), k);
        }
        for (int i = 0; i < 30; i++) {
            net.step();
            CHECKS.same("byteAt(0) behind step " + i, net.byteAt(0), i);
        }
    }

    private static void lowestBytes() {
        for (int n = 1; n <= 8; n++) {
            NetWires net = new NetWires();
            net.feed(0x8877665544332211L, n);
            net.send(0, 1);
            CHECKS.same("feed(.., " + n + "): bytes", net.message(0, 4), n);
            for (int i = 0; i < n; i++) {
                CHECKS.same("feed(.., " + n + "): byte " + i, net.messageAt(0, i), 0x11 * (i + 1));
            }
        }
    }

    private static void behindTheTape() {
        NetWires net = new NetWires();
        for (int n = 8; n >= 1; n--) {
            net.feed(n, n);
        }
        net.send(0, 1);
        int start = 0;
        for (int n = 8; n >= 1; n--) {
            CHECKS.same("the first byte of feed(" + n + ", " + n + ")", net.messageAt(0, start), n);
            CHECKS.same("the last byte of feed(" + n + ", " + n + ")", net.messageAt(0, start + n - 1), n == 1 ? 1 : 0);
            start += n;
        }
        CHECKS.same("bytes", net.message(0, 4), start);
    }

    private static void lowestFirst() {
        NetWires net = new NetWires();
        long[] eights = {0, -1, Long.MIN_VALUE, Long.MAX_VALUE, 0xFF00FF00FF00FF00L, 0x807F807F807F807FL};
        for (long eight : eights) {
            net.feed(eight, 8);
        }
        net.send(0, 1);
        for (int at = 0; at < eights.length * 8; at++) {
            long due = eights[at / 8] >>> (at % 8 * 8) & 255;
            CHECKS.same("byte " + at, net.messageAt(0, at), due);
        }
    }

    private static void howMany() {
        NetWires net = new NetWires();
        int due = 0;
        for (int i = 0; i < 200; i++) {
            int n = i % 8 + 1;
            due += n;
            CHECKS.same("feed " + i, net.feed(i, n), due);
        }
        CHECKS.same("count(6)", net.count(6), due);
        net.send(0, 1);
        CHECKS.same("behind a send", net.feed(0, 8), 8);
    }

    private static void wrongN() {
        NetWires net = new NetWires();
        CHECKS.same("feed(0, 1)", net.feed(0, 1), 1);
        CHECKS.same("feed(0, 8)", net.feed(0, 8), 9);
        for (int n : Edges.beyond(1, 8)) {
            CHECKS.raises("feed(0, " + n + ")", Edges.ARGUMENT, () -> net.feed(0, n));
            CHECKS.same("the tape stays", net.count(6), 9);
        }
    }

    private static void tooMany() {
        for (int n = 1; n <= 8; n++) {
            NetWires net = new NetWires();
            int more = n;
            Edges.feedBytes(net, 0, 2049 - n);
            CHECKS.raises("2049 by " + n + " more", Edges.STATE, () -> net.feed(-1, more));
            NetWires other = new NetWires();
            Edges.feedBytes(other, 0, 2048 - n);
            CHECKS.same("2048 by " + n + " more", other.feed(-1, n), 2048);
            CHECKS.raises("then " + n + " more", Edges.STATE, () -> other.feed(-1, more));
        }
    }

    private static void tooManyChangeNothing() {
        NetWires net = new NetWires();
        Edges.feedBytes(net, 0, 2041);
        CHECKS.raises("8 more", Edges.STATE, () -> net.feed(-1, 8));
        CHECKS.same("bytes on it", net.count(6), 2041);
        CHECKS.same("7 more", net.feed(0x07060504030201L, 7), 2048);
        CHECKS.raises("1 more", Edges.STATE, () -> net.feed(-1, 1));
        net.send(0, 1);
        CHECKS.same("bytes", net.message(0, 4), 2048);
        CHECKS.same("the first byte", net.messageAt(0, 0), 0);
        CHECKS.same("byte 2040", net.messageAt(0, 2040), 2040 % 256);
        for (int i = 1; i <= 7; i++) {
            CHECKS.same("byte " + (2040 + i), net.messageAt(0, 2040 + i), i);
        }
        CHECKS.same("room again", net.feed(-1, 8), 8);
    }

    private static void wrongNOfAFullTape() {
        NetWires net = new NetWires();
        Edges.feedBytes(net, 0, 2048);
        for (int n : Edges.beyond(1, 8)) {
            CHECKS.raises("feed(0, " + n + ")", Edges.ARGUMENT, () -> net.feed(0, n));
        }
        CHECKS.same("bytes on it", net.count(6), 2048);
    }

    private static void noBytes() {
        NetWires net = new NetWires();
        CHECKS.same("send(3, 4)", net.send(3, 4), 1);
        CHECKS.same("its bytes", net.message(0, 4), 0);
        CHECKS.same("from", net.message(0, 0), 3);
        CHECKS.raises("byte 0", Edges.INDEX, () -> net.messageAt(0, 0));
        CHECKS.same("it arrives", net.step(), 4);
        CHECKS.same("bytes that arrived", net.count(7), 0);
        net.feed(1, 1);
        net.send(3, 4);
        net.send(3, 4);
        CHECKS.same("the second of two sends has none", net.message(1, 4), 0);
    }

    /** Feeds and sends: the tape is empty then, and what is fed next is all that the next message says. */
    private static void sendsAndIsEmpty(String name, NetWires net, int from, int to, int sent) {
        net.feed(-1, 8);
        CHECKS.same(name + ": send", net.send(from, to), sent);
        CHECKS.same(name + ": bytes on the tape", net.count(6), 0);
        CHECKS.same(name + ": the next feed", net.feed(0x55, 1), 1);
    }

    private static void emptyInAnyCase() {
        NetWires net = new NetWires();
        sendsAndIsEmpty("on its way", net, 0, 1, 1);
        net.send(0, 1);
        CHECKS.same("the first message's bytes", net.message(0, 4), 8);
        CHECKS.same("the next message's bytes", net.message(1, 4), 1);
        CHECKS.same("the next message's byte", net.messageAt(1, 0), 0x55);
        net.part(1);
        sendsAndIsEmpty("parted", net, 0, 1, 0);
        net.part(0);
        net.send(0, 1);
        CHECKS.same("behind a parted one", net.message(2, 4), 1);
        net.noise(1000, 0, 0, 1);
        sendsAndIsEmpty("LOSS", net, 0, 1, 0);
        net.noise(0, 1000, 0, 1);
        net.send(0, 1);
        CHECKS.same("behind one that LOSS took", net.message(3, 4), 1);
        sendsAndIsEmpty("twice", net, 0, 1, 2);
        net.noise(0, 0, 0, 1);
        Edges.fill(net, 193);
        CHECKS.same("on their way", net.count(1), 200);
        sendsAndIsEmpty("200 on their way", net, 0, 1, 0);
    }

    private static void emptyIfItThrows() {
        int[][] ends = {{-1, 0}, {0, -1}, {16, 0}, {0, 16}, {-1, 16}, {Integer.MIN_VALUE, 0}, {0, Integer.MAX_VALUE}};
        for (int[] e : ends) {
            NetWires net = new NetWires();
            net.feed(-1, 8);
            CHECKS.raises("send(" + e[0] + ", " + e[1] + ")", Edges.INDEX, () -> net.send(e[0], e[1]));
            CHECKS.same("bytes on the tape", net.count(6), 0);
            net.send(0, 1);
            CHECKS.same("the next message's bytes", net.message(0, 4), 0);
            Edges.feedBytes(net, 0, 2048);
            CHECKS.raises("send of a full tape", Edges.INDEX, () -> net.send(e[0], e[1]));
            CHECKS.same("room again", net.feed(0, 8), 8);
        }
    }

    private static void fromMayBeTo() {
        for (int e : new int[] {0, 9, 15}) {
            NetWires net = new NetWires();
            CHECKS.same("send(" + e + ", " + e + ")", net.send(e, e), 1);
            net.part(1 << e);
            CHECKS.same("parted off from all others", net.send(e, e), 1);
            CHECKS.same("it arrives", net.step(), e);
            CHECKS.same("parted, it arrives", net.step(), e);
            CHECKS.same("from", net.happened(0, 3), e);
            CHECKS.same("at", net.happened(0, 1), 3);
            net.delay(e, e, 7);
            net.send(e, e);
            CHECKS.same("with a delay of its own", net.message(0, 2), 10);
        }
    }

    private static void noneOneTwo() {
        NetWires net = new NetWires();
        CHECKS.same("one", net.send(0, 1), 1);
        net.noise(0, 1000, 0, 1);
        CHECKS.same("two", net.send(0, 1), 2);
        net.part(2);
        CHECKS.same("none, parted", net.send(0, 1), 0);
        net.part(0);
        net.noise(1000, 1000, 0, 1);
        CHECKS.same("none, LOSS", net.send(0, 1), 0);
        net.noise(0, 0, 0, 1);
        Edges.fill(net, 196);
        net.noise(0, 1000, 0, 1);
        CHECKS.same("one of two", net.send(0, 1), 1);
        CHECKS.same("none of two", net.send(0, 1), 0);
        net.noise(0, 0, 0, 1);
        CHECKS.same("none of one", net.send(0, 1), 0);
    }

    private static void noEndpoint() {
        NetWires net = new NetWires();
        for (int e : Edges.beyond(0, 15)) {
            CHECKS.raises("send(" + e + ", 0)", Edges.INDEX, () -> net.send(e, 0));
            CHECKS.raises("send(15, " + e + ")", Edges.INDEX, () -> net.send(15, e));
            CHECKS.raises("send(" + e + ", " + e + ")", Edges.INDEX, () -> net.send(e, e));
        }
        CHECKS.same("send(0, 15)", net.send(0, 15), 1);
        CHECKS.same("send(15, 0)", net.send(15, 0), 1);
    }

    private static void noEndpointNoMessage() {
        NetWires net = new NetWires();
        Edges.fill(net, 3);
        net.alarm(0, 5);
        net.noise(0, 0, 1000, 6);
        String before = Edges.state(net);
        for (int e : Edges.beyond(0, 15)) {
            CHECKS.raises("send(" + e + ", 0)", Edges.INDEX, () -> net.send(e, 0));
            CHECKS.raises("send(0, " + e + ")", Edges.INDEX, () -> net.send(0, e));
        }
        CHECKS.sameText("the state", Edges.state(net), before);
        Edges.Draws draws = new Edges.Draws(6);
        draws.skip(2);
        net.send(0, 1);
        CHECKS.same("the first draws are left", net.message(3, 2), 3 + draws.next(1001));
    }
}
