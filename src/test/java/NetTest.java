/** Promises 2, 3, 10 to 12, 15, 16, 18, 20: the tape, messages on their way, links, the parted and the down. */
public final class NetTest {
    private static final Class<IndexOutOfBoundsException> INDEX = IndexOutOfBoundsException.class;
    private static final Class<IllegalArgumentException> ARGUMENT = IllegalArgumentException.class;
    private static final Class<IllegalStateException> STATE = IllegalStateException.class;
    private static final int[] NO_ENDPOINTS = {-1, 16, Integer.MIN_VALUE, Integer.MAX_VALUE};
    private static final Checks CHECKS = new Checks();

    public static void main(String[] args) {
        feeds();
        wrongFeeds();
        fullTape();
        sends();
        wrongSends();
        delays();
        wrongDelays();
        partedAtSending();
        partedAtArriving();
        downAtArriving();
        wrongSets();
        messages();
        bytesOfMessages();
        bytesThatArrived();
        counts();
        CHECKS.end();
    }

    private static void feeds() {
        NetWires net = new NetWires();
        CHECKS.same("feed(.., 1)", net.feed(0x1122334455667788L, 1), 1);
        CHECKS.same("feed(.., 3)", net.feed(0x99AABBCCDDEEFF00L, 3), 4);
        CHECKS.same("feed(.., 8)", net.feed(0x8007060504030201L, 8), 12);
        CHECKS.same("count(6)", net.count(6), 12);
        net.send(1, 2);
        CHECKS.same("count(6) behind send", net.count(6), 0);
        int[] due = {0x88, 0x00, 0xFF, 0xEE, 1, 2, 3, 4, 5, 6, 7, 0x80};
        CHECKS.same("bytes of the message", net.message(0, 4), due.length);
        for (int i = 0; i < due.length; i++) {
            CHECKS.same("messageAt(0, " + i + ")", net.messageAt(0, i), due[i]);
        }
        CHECKS.same("a tape from its beginning", net.feed(-1, 2), 2);
    }

    private static void wrongFeeds() {
        NetWires net = new NetWires();
        net.feed(1, 1);
        for (int n : new int[] {0, -1, 9, Integer.MIN_VALUE, Integer.MAX_VALUE}) {
            CHECKS.raises("feed(1, " + n + ")", ARGUMENT, () -> net.feed(1, n));
        }
        CHECKS.same("the tape stays", net.count(6), 1);
    }

    private static void fullTape() {
        NetWires net = new NetWires();
        for (int i = 1; i <= 255; i++) {
            CHECKS.same("feed " + i, net.feed(i, 8), 8 * i);
        }
        CHECKS.same("seven more", net.feed(0, 7), 2047);
        CHECKS.raises("two too many", STATE, () -> net.feed(0, 2));
        CHECKS.raises("eight too many", STATE, () -> net.feed(0, 8));
        CHECKS.raises("none of 1 .. 8", ARGUMENT, () -> net.feed(0, 9));
        CHECKS.same("nothing came of these", net.count(6), 2047);
        CHECKS.same("the last", net.feed(0xAB, 1), 2048);
        CHECKS.raises("one too many", STATE, () -> net.feed(0, 1));
        CHECKS.raises("none of 1 .. 8 when full", ARGUMENT, () -> net.feed(0, 0));
        CHECKS.same("send", net.send(0, 0), 1);
        CHECKS.same("all bytes", net.message(0, 4), 2048);
        CHECKS.same("the last byte", net.messageAt(0, 2047), 0xAB);
        CHECKS.same("byte 2032", net.messageAt(0, 2032), 255);
        CHECKS.same("empty again", net.feed(0, 8), 8);
        net.step();
        CHECKS.same("all bytes arrived", net.count(7), 2048);
        CHECKS.same("the last byte that arrived", net.byteAt(2047), 0xAB);
    }

    private static void sends() {
        NetWires net = new NetWires();
        CHECKS.same("a message of 0 bytes", net.send(0, 15), 1);
        CHECKS.same("how many it has", net.message(0, 4), 0);
        net.feed(7, 1);
        CHECKS.same("to itself", net.send(9, 9), 1);
        CHECKS.same("on their way", net.count(1), 2);
        CHECKS.same("it arrives", net.run(3), 2);
        CHECKS.same("from itself", net.happened(0, 3), 9);
        CHECKS.same("at itself", net.happened(0, 0), 9);
        net.feed(7, 1);
        net.part(1);
        CHECKS.same("parted", net.send(0, 1), 0);
        CHECKS.same("the tape is empty then", net.count(6), 0);
    }

    private static void wrongSends() {
        NetWires net = new NetWires();
        for (int endpoint : NO_ENDPOINTS) {
            net.feed(1, 1);
            CHECKS.raises("send(" + endpoint + ", 0)", INDEX, () -> net.send(endpoint, 0));
            CHECKS.same("the tape is empty then", net.count(6), 0);
            net.feed(1, 1);
            CHECKS.raises("send(0, " + endpoint + ")", INDEX, () -> net.send(0, endpoint));
            CHECKS.same("the tape is empty then", net.count(6), 0);
        }
        CHECKS.same("none is on its way", net.count(1), 0);
        CHECKS.same("none is lost", net.count(3), 0);
        CHECKS.same("no number is taken", net.count(5), 0);
    }

    private static void delays() {
        NetWires net = new NetWires();
        CHECKS.same("delay(2, 3, 0)", net.delay(2, 3, 0), 3);
        CHECKS.same("delay(3, 2, 1000)", net.delay(3, 2, 1000), 3);
        net.send(2, 3);
        net.send(3, 2);
        net.send(2, 2);
        CHECKS.same("delay(2, 3, 8)", net.delay(2, 3, 8), 0);
        CHECKS.same("delay(3, 2, 8)", net.delay(3, 2, 8), 1000);
        CHECKS.same("one for NOW", net.message(0, 2), 0);
        CHECKS.same("another link", net.message(1, 2), 3);
        CHECKS.same("as it was when it was sent", net.message(2, 2), 1000);
        CHECKS.same("it arrives NOW", net.step(), 3);
        CHECKS.same("NOW", net.count(0), 0);
        net.run(5);
        net.send(2, 3);
        CHECKS.same("from now on", net.message(0, 2), 13);
        for (int from = 0; from < 16; from++) {
            for (int to = 0; to < 8; to++) {
                net.delay(from, to, 16 * from + to);
            }
        }
        for (int from = 0; from < 16; from++) {
            for (int to = 0; to < 8; to++) {
                CHECKS.same("delay of " + from + " to " + to, net.delay(from, to, 1), 16 * from + to);
            }
        }
        CHECKS.same("a link that was not set", net.delay(0, 15, 3), 3);
    }

    private static void wrongDelays() {
        NetWires net = new NetWires();
        for (int endpoint : NO_ENDPOINTS) {
            CHECKS.raises("delay(" + endpoint + ", 0, 1)", INDEX, () -> net.delay(endpoint, 0, 1));
            CHECKS.raises("delay(0, " + endpoint + ", 1)", INDEX, () -> net.delay(0, endpoint, 1));
            CHECKS.raises("delay(0, " + endpoint + ", -1)", INDEX, () -> net.delay(0, endpoint, -1));
        }
        for (int ticks : new int[] {-1, 1001, Integer.MIN_VALUE, Integer.MAX_VALUE}) {
            CHECKS.raises("delay(0, 1, " + ticks + ")", ARGUMENT, () -> net.delay(0, 1, ticks));
        }
        CHECKS.same("it is as it was", net.delay(0, 1, 3), 3);
        CHECKS.same("so is its neighbour", net.delay(1, 0, 3), 3);
    }

    private static void partedAtSending() {
        NetWires net = new NetWires();
        CHECKS.same("part(5)", net.part(5), 0);
        CHECKS.same("both are in the set", net.send(0, 2), 1);
        CHECKS.same("none is", net.send(1, 3), 1);
        CHECKS.same("the first is", net.send(2, 3), 0);
        CHECKS.same("the second is", net.send(15, 0), 0);
        CHECKS.same("lost", net.count(3), 2);
        CHECKS.same("ever on their way", net.count(2), 2);
        CHECKS.same("numbers", net.count(5), 2);
        CHECKS.same("part(65535)", net.part(65535), 5);
        CHECKS.same("all are in the set", net.send(15, 0), 1);
        CHECKS.same("part(32768)", net.part(32768), 65535);
        CHECKS.same("instead of the one before", net.send(0, 2), 1);
        CHECKS.same("the last endpoint", net.send(15, 2), 0);
        CHECKS.same("part(0)", net.part(0), 32768);
    }

    private static void partedAtArriving() {
        NetWires net = new NetWires();
        net.feed(77, 1);
        net.send(0, 1);
        net.step();
        net.feed(88, 1);
        net.send(4, 5);
        net.send(4, 6);
        net.part(1 << 4 | 1 << 6);
        CHECKS.same("on their way all the same", net.count(1), 2);
        CHECKS.same("parted when it arrives", net.step(), 16 + 5);
        CHECKS.same("what arrived last stays", net.byteAt(0), 77);
        CHECKS.same("both are in the set", net.step(), 6);
        CHECKS.same("this one has no bytes", net.count(7), 0);
        CHECKS.same("lost", net.count(3), 1);
        CHECKS.same("on their way", net.count(1), 0);
        CHECKS.same("ever on their way", net.count(2), 3);
        CHECKS.same("events that happened", net.count(4), 3);
    }

    private static void downAtArriving() {
        NetWires net = new NetWires();
        CHECKS.same("down(2)", net.down(2), 0);
        CHECKS.same("to one that is down", net.send(0, 1), 1);
        CHECKS.same("from one that is down", net.send(1, 0), 1);
        CHECKS.same("it is lost", net.step(), 16 + 1);
        CHECKS.same("it is not", net.step(), 0);
        CHECKS.same("lost", net.count(3), 1);
        net.send(0, 1);
        CHECKS.same("down(65535)", net.down(65535), 2);
        CHECKS.same("down(1)", net.down(1), 65535);
        CHECKS.same("up again when it arrives", net.step(), 1);
    }

    private static void wrongSets() {
        NetWires net = new NetWires();
        net.part(3);
        net.down(4);
        for (int set : new int[] {-1, 65536, Integer.MIN_VALUE, Integer.MAX_VALUE}) {
            CHECKS.raises("part(" + set + ")", ARGUMENT, () -> net.part(set));
            CHECKS.raises("down(" + set + ")", ARGUMENT, () -> net.down(set));
        }
        CHECKS.same("the parted stay", net.part(0), 3);
        CHECKS.same("the down stay", net.down(0), 4);
    }

    private static void messages() {
        NetWires net = new NetWires();
        net.alarm(0, 1);
        net.delay(1, 2, 9);
        net.feed(1, 5);
        net.send(1, 2);
        net.sync(0, 4);
        net.send(3, 4);
        net.feed(1, 2);
        net.send(5, 6);
        int[][] due = {{3, 4, 3, 3, 0}, {5, 6, 3, 4, 2}, {1, 2, 9, 1, 5}};
        for (int k = 0; k < due.length; k++) {
            for (int what = 0; what < 5; what++) {
                CHECKS.same("message(" + k + ", " + what + ")", net.message(k, what), due[k][what]);
            }
            CHECKS.same("message(" + k + ", 5)", net.message(k, 5), NetWires.NONE);
            CHECKS.same("message(" + k + ", -1)", net.message(k, -1), NetWires.NONE);
        }
        for (int k : new int[] {-1, 3, 200, Integer.MIN_VALUE, Integer.MAX_VALUE}) {
            CHECKS.same("message(" + k + ", 0)", net.message(k, 0), NetWires.NONE);
        }
        net.run(3);
        CHECKS.same("the one left", net.message(0, 3), 1);
        CHECKS.same("no other", net.message(1, 3), NetWires.NONE);
    }

    private static void bytesOfMessages() {
        NetWires net = new NetWires();
        net.feed(0xFF7F80, 3);
        net.send(0, 1);
        net.feed(0x42, 1);
        net.send(0, 2);
        CHECKS.same("messageAt(0, 0)", net.messageAt(0, 0), 0x80);
        CHECKS.same("messageAt(0, 1)", net.messageAt(0, 1), 0x7F);
        CHECKS.same("messageAt(0, 2)", net.messageAt(0, 2), 0xFF);
        CHECKS.same("messageAt(1, 0)", net.messageAt(1, 0), 0x42);
        for (int i : new int[] {-1, 3, 2048, Integer.MIN_VALUE, Integer.MAX_VALUE}) {
            CHECKS.raises("messageAt(0, " + i + ")", INDEX, () -> net.messageAt(0, i));
            CHECKS.raises("messageAt(1, " + i + ")", INDEX, () -> net.messageAt(1, i));
        }
        for (int k : new int[] {-1, 2, Integer.MIN_VALUE, Integer.MAX_VALUE}) {
            CHECKS.raises("messageAt(" + k + ", 0)", INDEX, () -> net.messageAt(k, 0));
        }
    }

    private static void bytesThatArrived() {
        NetWires net = new NetWires();
        CHECKS.raises("none arrived", INDEX, () -> net.byteAt(0));
        net.feed(0x80FF, 2);
        net.send(0, 1);
        CHECKS.raises("none arrived yet", INDEX, () -> net.byteAt(0));
        net.step();
        net.feed(0x0102030405060708L, 8);
        net.alarm(0, 1);
        net.step();
        CHECKS.same("how many", net.count(7), 2);
        CHECKS.same("byteAt(0)", net.byteAt(0), 255);
        CHECKS.same("byteAt(1)", net.byteAt(1), 128);
        for (int i : new int[] {-1, 2, Integer.MIN_VALUE, Integer.MAX_VALUE}) {
            CHECKS.raises("byteAt(" + i + ")", INDEX, () -> net.byteAt(i));
        }
        net.send(0, 1);
        net.run(3);
        CHECKS.same("another one arrives", net.byteAt(7), 1);
        net.send(0, 1);
        net.run(3);
        CHECKS.raises("one of no bytes arrives", INDEX, () -> net.byteAt(0));
    }

    private static void counts() {
        NetWires net = new NetWires();
        net.feed(1, 2);
        net.send(0, 1);
        net.send(0, 2);
        net.run(10);
        net.send(0, 3);
        net.alarm(0, 5);
        net.part(1);
        net.send(0, 1);
        net.meddle(0, 0, 0);
        net.part(0);
        net.send(0, 3);
        net.feed(1, 4);
        net.meddle(0, 1, 0);
        net.meddle(0, 2, 1);
        int[] due = {10, 2, 5, 2, 2, 7, 4, 0};
        for (int what = 0; what < due.length; what++) {
            CHECKS.same("count(" + what + ")", net.count(what), due[what]);
        }
        for (int what : new int[] {-1, 8, Integer.MIN_VALUE, Integer.MAX_VALUE}) {
            CHECKS.same("count(" + what + ")", net.count(what), NetWires.NONE);
        }
    }
}
