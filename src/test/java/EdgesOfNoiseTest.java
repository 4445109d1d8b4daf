/** The edges that the document names for NOISE, and promise 13, a test for each sentence. */
public final class EdgesOfNoiseTest {
    private static final Checks CHECKS = new Checks();

    public static void main(String[] args) {
        CHECKS.test("DRAW is DRAW * 6364136223846793005 + 1442695040888963407 (a long, wrapping)", EdgesOfNoiseTest::wraps);
        CHECKS.test("before each use", EdgesOfNoiseTest::beforeEachUse);
        CHECKS.test("of which (DRAW >>> 33) mod m is used", EdgesOfNoiseTest::upperBits);
        CHECKS.test("first with m 1000: below LOSS: lost", EdgesOfNoiseTest::belowLoss);
        CHECKS.test("first with m 1000: below LOSS: lost (and no draw more)", EdgesOfNoiseTest::lossDrawsOnce);
        CHECKS.test("then with m 1000: below TWICE: it is sent twice", EdgesOfNoiseTest::belowTwice);
        CHECKS.test("each of the two as a message of its own", EdgesOfNoiseTest::twoOfTheirOwn);
        CHECKS.test("the first one's number the lower", EdgesOfNoiseTest::firstHasTheLowerNumber);
        CHECKS.test("each is lost by itself, when 200 are on their way", EdgesOfNoiseTest::eachLostByItself);
        CHECKS.test("then for each that is sent so, lost or not", EdgesOfNoiseTest::lostOrNotDraws);
        CHECKS.test("with m SPREAD + 1: it arrives so much later.", EdgesOfNoiseTest::spreadPlusOne);
        CHECKS.test("with m SPREAD + 1 (SPREAD 0)", EdgesOfNoiseTest::spreadOfNothing);
        CHECKS.test("One that is parted draws nothing", EdgesOfNoiseTest::partedDrawsNothing);
        CHECKS.test("one that is sent when 200 are on their way draws all the same.", EdgesOfNoiseTest::fullDraws);
        CHECKS.test("Promise 13: Noise from now on", EdgesOfNoiseTest::fromNowOn);
        CHECKS.test("Promise 13: LOSS and TWICE (0 .. 1000), SPREAD (0 .. 1000)", EdgesOfNoiseTest::firstAndLast);
        CHECKS.test("Promise 13: DRAW (as told, each time)", EdgesOfNoiseTest::drawAsTold);
        CHECKS.test("Promise 13: there is none when the first three are 0", EdgesOfNoiseTest::noneWhenAllAreZero);
        CHECKS.test("Promise 13: there is none when the first three are 0 (not two of them)", EdgesOfNoiseTest::oneIsEnough);
        CHECKS.test("Promise 13: IllegalArgumentException, when one is not so.", EdgesOfNoiseTest::refused);
        CHECKS.test("Promise 13: IllegalArgumentException (all is as it was then)", EdgesOfNoiseTest::refusedChangesNothing);
        CHECKS.end();
    }

    /** Whether the next message is lost when its first draw makes DRAW this. */
    private static boolean isLost(int loss, long draw) {
        NetWires net = new NetWires();
        net.noise(loss, 0, 1, Edges.drawBefore(draw, 1));
        return net.send(0, 1) == 0;
    }

    /** How many are sent when the second draw makes DRAW this. */
    private static int copies(int twice, long draw) {
        NetWires net = new NetWires();
        net.noise(0, twice, 1, Edges.drawBefore(draw, 2));
        return net.send(0, 1);
    }

    /** How much later a message arrives when the third draw makes DRAW this. */
    private static int late(int spread, long draw) {
        NetWires net = new NetWires();
        net.noise(1, 0, spread, Edges.drawBefore(draw, 3));
        return net.send(0, 1) == 0 ? Edges.NONE : net.message(0, 2) - 3;
    }

    private static void wraps() {
        long[] seeds = {0, 1, -1, Long.MAX_VALUE, Long.MIN_VALUE, 1L << 32, -1L << 33, 1442695040888963407L};
        for (long seed : seeds) {
            NetWires net = new NetWires();
            Edges.Draws draws = new Edges.Draws(seed);
            net.noise(0, 0, 1000, seed);
            for (int i = 0; i < 60; i++) {
                draws.skip(2);
                net.send(0, 1);
                CHECKS.same("DRAW " + seed + ", send " + i, net.message(0, 2) - net.count(0), 3 + draws.next(1001));
                net.step();
            }
        }
    }

    /** Of DRAW as it is told 400 would be used, of the one behind it 735 is. */
    private static void beforeEachUse() {
        long told = Edges.drawOf(400);
        NetWires net = new NetWires();
        net.noise(735, 0, 0, told);
        CHECKS.same("LOSS 735", net.send(0, 1), 1);
        net.noise(736, 0, 0, told);
        CHECKS.same("LOSS 736", net.send(0, 1), 0);
    }

    private static void upperBits() {
        long lower = (1L << 33) - 1;
        CHECKS.fails("LOSS 5, 5 drawn", isLost(5, Edges.drawOf(5)));
        CHECKS.holds("LOSS 6, 5 drawn", isLost(6, Edges.drawOf(5)));
        CHECKS.fails("LOSS 5, 5 drawn and all lower bits", isLost(5, Edges.drawOf(5) | lower));
        CHECKS.holds("LOSS 6, 5 drawn and all lower bits", isLost(6, Edges.drawOf(5) | lower));
        CHECKS.fails("LOSS 647, 2147483647 drawn", isLost(647, -1));
        CHECKS.holds("LOSS 648, 2147483647 drawn", isLost(648, -1));
        CHECKS.fails("LOSS 824, 1073741824 drawn", isLost(824, Long.MIN_VALUE));
        CHECKS.holds("LOSS 825, 1073741824 drawn", isLost(825, Long.MIN_VALUE));
        CHECKS.same("SPREAD 1000, 2147483647 drawn", late(1000, -1), 2147483647 % 1001);
    }

    private static void belowLoss() {
        for (int loss : new int[] {1, 2, 500, 999, 1000}) {
            CHECKS.holds("LOSS " + loss + ", one less drawn", isLost(loss, Edges.drawOf(loss - 1)));
            CHECKS.holds("LOSS " + loss + ", 0 drawn", isLost(loss, Edges.drawOf(0)));
            CHECKS.holds("LOSS " + loss + ", 1000 drawn", isLost(loss, Edges.drawOf(1000)));
        }
        for (int loss : new int[] {0, 1, 2, 500, 999}) {
            CHECKS.fails("LOSS " + loss + ", as much drawn", isLost(loss, Edges.drawOf(loss)));
            CHECKS.fails("LOSS " + loss + ", 999 drawn", isLost(loss, Edges.drawOf(999)));
            CHECKS.fails("LOSS " + loss + ", 1999 drawn", isLost(loss, Edges.drawOf(1999)));
        }
        NetWires net = new NetWires();
        net.noise(1000, 1000, 1000, 7);
        net.feed(1, 1);
        CHECKS.same("TWICE is nothing to it", net.send(0, 1), 0);
        CHECKS.same("lost once", net.count(3), 1);
        CHECKS.same("on their way", net.count(1), 0);
        CHECKS.same("ever on their way", net.count(2), 0);
    }

    private static void lossDrawsOnce() {
        long seed = Edges.drawBefore(Edges.drawOf(0), 1);
        NetWires net = new NetWires();
        net.noise(1, 0, 1000, seed);
        CHECKS.same("the first", net.send(0, 1), 0);
        Edges.Draws draws = new Edges.Draws(seed);
        draws.skip(1);
        CHECKS.holds("the second draw is not below LOSS:", draws.next(1000) >= 1);
        draws.skip(1);
        CHECKS.same("the second", net.send(0, 1), 1);
        CHECKS.same("it is late by the fourth draw", net.message(0, 2), 3 + draws.next(1001));
    }

    private static void belowTwice() {
        for (int twice : new int[] {1, 2, 500, 999, 1000}) {
            CHECKS.same("TWICE " + twice + ", one less drawn", copies(twice, Edges.drawOf(twice - 1)), 2);
            CHECKS.same("TWICE " + twice + ", 0 drawn", copies(twice, Edges.drawOf(0)), 2);
            CHECKS.same("TWICE " + twice + ", 1000 drawn", copies(twice, Edges.drawOf(1000)), 2);
        }
        for (int twice : new int[] {0, 1, 2, 500, 999}) {
            CHECKS.same("TWICE " + twice + ", as much drawn", copies(twice, Edges.drawOf(twice)), 1);
            CHECKS.same("TWICE " + twice + ", 999 drawn", copies(twice, Edges.drawOf(999)), 1);
            CHECKS.same("TWICE " + twice + ", 1999 drawn", copies(twice, Edges.drawOf(1999)), 1);
        }
    }

    private static void twoOfTheirOwn() {
        NetWires net = new NetWires();
        net.noise(0, 1000, 0, 1);
        net.feed(0x8001, 2);
        CHECKS.same("send", net.send(4, 5), 2);
        CHECKS.same("on their way", net.count(1), 2);
        CHECKS.same("ever on their way", net.count(2), 2);
        CHECKS.same("the next number", net.count(5), 2);
        for (int k = 0; k < 2; k++) {
            int[] due = {4, 5, 3, k, 2};
            for (int what = 0; what < 5; what++) {
                CHECKS.same("message(" + k + ", " + what + ")", net.message(k, what), due[what]);
            }
            CHECKS.same("messageAt(" + k + ", 0)", net.messageAt(k, 0), 1);
            CHECKS.same("messageAt(" + k + ", 1)", net.messageAt(k, 1), 128);
        }
        net.meddle(0, 2, 5);
        net.meddle(0, 0, 0);
        CHECKS.same("the one that is left", net.message(0, 2), 8);
        CHECKS.same("it arrives", net.step(), 5);
        CHECKS.same("its bytes", net.byteAt(1), 128);
        CHECKS.same("no other", net.step(), Edges.NONE);
    }

    private static void firstHasTheLowerNumber() {
        boolean seenEarlier = false;
        boolean seenLater = false;
        for (int seed = 0; seed < 10; seed++) {
            NetWires net = new NetWires();
            net.noise(0, 1000, 1000, seed);
            net.send(0, 1);
            Edges.Draws draws = new Edges.Draws(seed);
            draws.skip(2);
            int first = draws.next(1001);
            int second = draws.next(1001);
            int k = first <= second ? 0 : 1;
            seenEarlier |= first < second;
            seenLater |= first > second;
            CHECKS.same("the first one's number", net.message(k, 3), 0);
            CHECKS.same("the first one's time", net.message(k, 2), 3 + first);
            CHECKS.same("the second one's number", net.message(1 - k, 3), 1);
            CHECKS.same("the second one's time", net.message(1 - k, 2), 3 + second);
        }
        CHECKS.holds("the first one was the earlier, and the later:", seenEarlier && seenLater);
    }

    private static void eachLostByItself() {
        int[] before = {197, 198, 199, 200};
        int[] sent = {2, 2, 1, 0};
        for (int i = 0; i < before.length; i++) {
            NetWires net = new NetWires();
            Edges.fill(net, before[i]);
            net.noise(0, 1000, 0, 1);
            CHECKS.same(before[i] + " on their way: send", net.send(0, 1), sent[i]);
            CHECKS.same(before[i] + " on their way: lost", net.count(3), 2 - sent[i]);
            CHECKS.same(before[i] + " on their way: then", net.count(1), before[i] + sent[i]);
            CHECKS.same(before[i] + " on their way: ever", net.count(2), before[i] + sent[i]);
            CHECKS.same(before[i] + " on their way: numbers", net.count(5), before[i] + sent[i]);
        }
    }

    /** The second of two is lost; then both are; what is sent behind them tells how many draws they took. */
    private static void lostOrNotDraws() {
        NetWires net = new NetWires();
        Edges.fill(net, 199);
        net.noise(0, 1000, 1000, 12);
        Edges.Draws draws = new Edges.Draws(12);
        draws.skip(2);
        CHECKS.same("199 on their way", net.send(0, 1), 1);
        CHECKS.same("the first one's draw", net.message(199, 2), 3 + draws.next(1001));
        draws.skip(1);
        CHECKS.same("200 on their way", net.send(0, 1), 0);
        draws.skip(4);
        net.meddle(199, 0, 0);
        CHECKS.same("199 on their way again", net.send(0, 1), 1);
        draws.skip(2);
        CHECKS.same("the first one's draw", net.message(199, 2), 3 + draws.next(1001));
    }

    private static void spreadPlusOne() {
        for (int spread : new int[] {1, 2, 999, 1000}) {
            CHECKS.same("SPREAD " + spread + ", 0 drawn", late(spread, Edges.drawOf(0)), 0);
            CHECKS.same("SPREAD " + spread + ", as much drawn", late(spread, Edges.drawOf(spread)), spread);
            CHECKS.same("SPREAD " + spread + ", one less drawn", late(spread, Edges.drawOf(spread - 1)), spread - 1);
            CHECKS.same("SPREAD " + spread + ", one more drawn", late(spread, Edges.drawOf(spread + 1)), 0);
        }
        CHECKS.same("SPREAD 0, 1 drawn", late(0, Edges.drawOf(1)), 0);
        NetWires net = new NetWires();
        net.delay(0, 1, 1000);
        net.run(1000);
        net.noise(0, 0, 1000, Edges.drawBefore(Edges.drawOf(1000), 3));
        net.send(0, 1);
        CHECKS.same("later than the longest delay", net.message(0, 2), 3000);
    }

    private static void spreadOfNothing() {
        NetWires net = new NetWires();
        net.noise(0, 500, 0, 3);
        Edges.Draws draws = new Edges.Draws(3);
        for (int i = 0; i < 100; i++) {
            draws.skip(1);
            int copies = draws.next(1000) < 500 ? 2 : 1;
            draws.skip(copies);
            CHECKS.same("send " + i, net.send(0, 1), copies);
            CHECKS.same("none is late", net.run(3), copies);
        }
    }

    private static void partedDrawsNothing() {
        NetWires net = new NetWires();
        net.noise(500, 500, 1000, 21);
        net.part(1);
        for (int i = 0; i < 5; i++) {
            CHECKS.same("parted", net.send(0, 1), 0);
        }
        CHECKS.same("each is lost once", net.count(3), 5);
        net.part(0);
        NetWires other = new NetWires();
        other.noise(500, 500, 1000, 21);
        for (int i = 0; i < 30; i++) {
            CHECKS.same("send " + i + " behind it", net.send(0, 1), other.send(0, 1));
        }
        for (int k = 0; k < other.count(1); k++) {
            CHECKS.same("when " + k + " arrives", net.message(k, 2), other.message(k, 2));
        }
    }

    /** Two nets with the same noise, one of them full at first: behind that they draw alike. */
    private static void fullDraws() {
        int[][] noises = {{0, 0, 1000}, {0, 500, 0}, {300, 500, 900}, {1, 1000, 1}};
        for (int[] n : noises) {
            NetWires full = new NetWires();
            Edges.fill(full, 200);
            full.noise(n[0], n[1], n[2], 5);
            NetWires free = new NetWires();
            free.noise(n[0], n[1], n[2], 5);
            for (int i = 0; i < 20; i++) {
                int lost = free.count(3);
                int due = free.send(0, 1) + free.count(3) - lost;
                lost = full.count(3);
                CHECKS.same("full: send " + i, full.send(0, 1), 0);
                CHECKS.same("full: as many are lost as would be sent or lost", full.count(3) - lost, due);
            }
            for (NetWires net : new NetWires[] {full, free}) {
                net.run(1000);
                net.run(5);
                CHECKS.same("none is left", net.count(1), 0);
            }
            for (int i = 0; i < 20; i++) {
                CHECKS.same("behind it: send " + i, full.send(0, 1), free.send(0, 1));
                CHECKS.same("behind it: when", full.message(0, 2), free.message(0, 2));
            }
        }
    }

    private static void fromNowOn() {
        NetWires net = new NetWires();
        net.send(0, 1);
        net.send(0, 1);
        net.noise(1000, 1000, 1000, 1);
        CHECKS.same("those that were sent before", net.run(3), 2);
        CHECKS.same("arrived", net.happened(0, 0), 1);
        CHECKS.same("were not lost", net.count(3), 0);
        CHECKS.same("one that is sent then", net.send(0, 1), 0);
    }

    private static void firstAndLast() {
        int[][] noises = {{0, 0, 0}, {1000, 0, 0}, {0, 1000, 0}, {0, 0, 1000}, {1000, 1000, 1000}, {0, 1000, 1000}};
        int[] sent = {1, 0, 2, 1, 0, 2};
        for (int i = 0; i < noises.length; i++) {
            NetWires net = new NetWires();
            int[] n = noises[i];
            net.noise(n[0], n[1], n[2], Edges.drawBefore(Edges.drawOf(999), 1));
            CHECKS.same("noise(" + n[0] + ", " + n[1] + ", " + n[2] + ", ..): send", net.send(0, 1), sent[i]);
        }
        CHECKS.same("SPREAD 1000", late(1000, Edges.drawOf(1000)), 1000);
    }

    private static void drawAsTold() {
        for (long draw : new long[] {0, -1, Long.MIN_VALUE, Long.MAX_VALUE}) {
            NetWires net = new NetWires();
            Edges.Draws draws = new Edges.Draws(draw);
            draws.skip(2);
            int late = draws.next(1001);
            for (int i = 0; i < 3; i++) {
                net.noise(0, 0, 1000, draw);
                net.send(0, 1);
                CHECKS.same("DRAW " + draw + ", time " + i, net.message(i, 2), 3 + late);
            }
        }
    }

    private static void noneWhenAllAreZero() {
        NetWires net = new NetWires();
        net.noise(1000, 1000, 1000, 1);
        CHECKS.same("with noise", net.send(0, 1), 0);
        net.noise(0, 0, 0, 1);
        for (int i = 0; i < 100; i++) {
            CHECKS.same("without noise", net.send(0, 1), 1);
        }
        CHECKS.same("none is late", net.run(3), 100);
        CHECKS.same("lost", net.count(3), 1);
    }

    private static void oneIsEnough() {
        CHECKS.holds("LOSS 1 alone", isOnlyLost());
        NetWires twice = new NetWires();
        twice.noise(0, 1, 0, Edges.drawBefore(Edges.drawOf(0), 2));
        CHECKS.same("TWICE 1 alone", twice.send(0, 1), 2);
        NetWires spread = new NetWires();
        spread.noise(0, 0, 1, Edges.drawBefore(Edges.drawOf(1), 3));
        spread.send(0, 1);
        CHECKS.same("SPREAD 1 alone", spread.message(0, 2), 4);
    }

    private static boolean isOnlyLost() {
        NetWires net = new NetWires();
        net.noise(1, 0, 0, Edges.drawBefore(Edges.drawOf(0), 1));
        return net.send(0, 1) == 0;
    }

    private static void refused() {
        NetWires net = new NetWires();
        for (int wrong : Edges.beyond(0, 1000)) {
            CHECKS.raises("LOSS " + wrong, Edges.ARGUMENT, () -> noise(net, wrong, 0, 0));
            CHECKS.raises("TWICE " + wrong, Edges.ARGUMENT, () -> noise(net, 0, wrong, 0));
            CHECKS.raises("SPREAD " + wrong, Edges.ARGUMENT, () -> noise(net, 0, 0, wrong));
            CHECKS.raises("all " + wrong, Edges.ARGUMENT, () -> noise(net, wrong, wrong, wrong));
        }
        CHECKS.raises("a sum of 0", Edges.ARGUMENT, () -> noise(net, -1, 1, 0));
        CHECKS.raises("a sum of 0 once more", Edges.ARGUMENT, () -> noise(net, 500, 0, -500));
    }

    private static long noise(NetWires net, int loss, int twice, int spread) {
        net.noise(loss, twice, spread, 99);
        return 0;
    }

    private static void refusedChangesNothing() {
        NetWires net = new NetWires();
        NetWires other = new NetWires();
        net.noise(300, 300, 300, 17);
        other.noise(300, 300, 300, 17);
        for (int i = 0; i < 30; i++) {
            CHECKS.raises("LOSS 1001", Edges.ARGUMENT, () -> noise(net, 1001, 0, 0));
            CHECKS.raises("TWICE 1001", Edges.ARGUMENT, () -> noise(net, 0, 1001, 0));
            CHECKS.raises("SPREAD 1001", Edges.ARGUMENT, () -> noise(net, 0, 0, 1001));
            CHECKS.same("send " + i, net.send(0, 1), other.send(0, 1));
            CHECKS.same("when the first arrives", net.message(0, 2), other.message(0, 2));
        }
        CHECKS.sameText("the state", Edges.state(net), Edges.state(other));
    }
}
