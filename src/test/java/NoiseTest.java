/** Promises 13 and 14, and the most messages that can be on their way: noise and meddling. */
public final class NoiseTest {
    private static final Class<IllegalArgumentException> ARGUMENT = IllegalArgumentException.class;
    private static final Checks CHECKS = new Checks();

    public static void main(String[] args) {
        drawsTellAll();
        firstDrawByHand();
        smallestNoise();
        largestDraw();
        newObjectHasNone();
        noNoise();
        noiseAnew();
        certainties();
        partedDrawsNothing();
        fullDrawsAllTheSame();
        wrongNoise();
        fullWithoutNoise();
        fullInTheMiddle();
        meddleLoses();
        meddleRepeats();
        meddleRepeatsWithoutNoise();
        meddleRepeatsWhenFull();
        meddlePostpones();
        wrongMeddling();
        CHECKS.end();
    }

    /** The draws of the document, made here once more. */
    private static final class Draws {
        private long draw;

        Draws(long draw) {
            this.draw = draw;
        }

        long next(int m) {
            draw = draw * 6364136223846793005L + 1442695040888963407L;
            return (draw >>> 33) % m;
        }
    }

    private static void drawsTellAll() {
        int[][] settings = {{300, 400, 5}, {1, 1, 1000}, {0, 0, 7}, {500, 0, 0}, {0, 500, 0}, {999, 999, 999}, {1, 0, 0}};
        for (int[] s : settings) {
            for (long seed : new long[] {0, 1, -1, 77, Long.MIN_VALUE, Long.MAX_VALUE}) {
                noisyRun(s[0], s[1], s[2], seed);
            }
        }
    }

    private static void noisyRun(int loss, int twice, int spread, long seed) {
        NetWires net = new NetWires();
        Draws draws = new Draws(seed);
        net.noise(loss, twice, spread, seed);
        int lost = 0;
        int number = 0;
        for (int i = 0; i < 35; i++) {
            String name = "noise(" + loss + ", " + twice + ", " + spread + ", " + seed + ") send " + i;
            int copies = 0;
            if (draws.next(1000) < loss) {
                lost++;
            } else {
                copies = draws.next(1000) < twice ? 2 : 1;
            }
            long[] late = new long[copies];
            for (int c = 0; c < copies; c++) {
                late[c] = draws.next(spread + 1);
            }
            int before = net.count(0);
            CHECKS.same(name, net.send(1, 2), copies);
            boolean turned = copies == 2 && late[1] < late[0];
            for (int c = 0; c < copies; c++) {
                int k = turned ? 1 - c : c;
                CHECKS.same(name + " when " + c, net.message(k, 2), before + 3 + late[c]);
                CHECKS.same(name + " number " + c, net.message(k, 3), number + c);
            }
            number += copies;
            CHECKS.same(name + " lost", net.count(3), lost);
            while (net.step() != NetWires.NONE) {
                CHECKS.same(name + " comes to", net.happened(0, 0), 2);
            }
        }
    }

    /** From DRAW 0 the first draw is 1442695040888963407, whose upper 31 bits are 167951807. */
    private static void firstDrawByHand() {
        NetWires net = new NetWires();
        net.noise(807, 0, 0, 0);
        CHECKS.same("807 is not below 807", net.send(0, 1), 1);
        net.noise(808, 0, 0, 0);
        CHECKS.same("807 is below 808", net.send(0, 1), 0);
    }

    /** The first seed whose draw after some others is the one that is sought. */
    private static long seedOf(int drawsBefore, int m, long sought) {
        for (long seed = 0; seed < 1000000; seed++) {
            Draws draws = new Draws(seed);
            for (int i = 0; i < drawsBefore; i++) {
                draws.next(1000);
            }
            if (draws.next(m) == sought) {
                return seed;
            }
        }
        CHECKS.holds("there is a seed for " + sought, false);
        return 0;
    }

    private static void smallestNoise() {
        NetWires net = new NetWires();
        net.noise(1, 0, 0, seedOf(0, 1000, 0));
        CHECKS.same("LOSS 1, drawn 0", net.send(0, 1), 0);
        net.noise(1, 0, 0, seedOf(0, 1000, 1));
        CHECKS.same("LOSS 1, drawn 1", net.send(0, 1), 1);
        net.noise(0, 1, 0, seedOf(1, 1000, 0));
        CHECKS.same("TWICE 1, drawn 0", net.send(0, 1), 2);
        net.noise(0, 1, 0, seedOf(1, 1000, 1));
        CHECKS.same("TWICE 1, drawn 1", net.send(0, 1), 1);
        net.noise(0, 0, 1, seedOf(2, 2, 1));
        CHECKS.same("SPREAD 1", net.send(0, 1), 1);
        CHECKS.same("SPREAD 1, drawn 1", net.message(4, 2), 4);
        CHECKS.same("the others are not later", net.message(3, 2), 3);
    }

    private static void largestDraw() {
        NetWires net = new NetWires();
        net.noise(999, 0, 0, seedOf(0, 1000, 999));
        CHECKS.same("LOSS 999, drawn 999", net.send(0, 1), 1);
        net.noise(1000, 0, 0, seedOf(0, 1000, 999));
        CHECKS.same("LOSS 1000, drawn 999", net.send(0, 1), 0);
        net.noise(0, 999, 0, seedOf(1, 1000, 999));
        CHECKS.same("TWICE 999, drawn 999", net.send(0, 1), 1);
        net.noise(0, 1000, 0, seedOf(1, 1000, 999));
        CHECKS.same("TWICE 1000, drawn 999", net.send(0, 1), 2);
        net.noise(0, 0, 1000, seedOf(2, 1001, 1000));
        net.send(0, 1);
        CHECKS.same("SPREAD 1000, drawn 1000", net.message(4, 2), 1003);
    }

    private static void newObjectHasNone() {
        NetWires net = new NetWires();
        fill(net, 200);
        CHECKS.same("all at one time", net.run(3), 200);
        fill(net, 200);
        CHECKS.same("all at one time again", net.run(3), 200);
    }

    private static void noNoise() {
        NetWires net = new NetWires();
        net.noise(1000, 1000, 1000, 5);
        net.noise(0, 0, 0, 5);
        for (int i = 0; i < 20; i++) {
            CHECKS.same("send without noise", net.send(0, 1), 1);
            CHECKS.same("when", net.message(i, 2), 3);
        }
    }

    private static void noiseAnew() {
        NetWires net = new NetWires();
        Draws draws = new Draws(9);
        draws.next(1000);
        draws.next(1000);
        long late = draws.next(1001);
        for (int i = 0; i < 3; i++) {
            net.noise(0, 0, 1000, 9);
            net.send(0, 1);
        }
        for (int k = 0; k < 3; k++) {
            CHECKS.same("DRAW as told, each time", net.message(k, 2), 3 + late);
        }
    }

    private static void certainties() {
        NetWires net = new NetWires();
        for (int seed = 0; seed < 30; seed++) {
            net.noise(1000, 1000, 1000, seed);
            CHECKS.same("all are lost", net.send(0, 1), 0);
            net.noise(0, 1000, 0, seed);
            CHECKS.same("all are sent twice", net.send(0, 1), 2);
        }
        CHECKS.same("lost", net.count(3), 30);
        CHECKS.same("each copy by itself", net.count(2), 60);
        CHECKS.same("a number for each", net.count(5), 60);
        CHECKS.same("both without delay", net.run(3), 60);
    }

    private static void partedDrawsNothing() {
        NetWires net = new NetWires();
        Draws draws = new Draws(31);
        draws.next(1000);
        draws.next(1000);
        net.noise(0, 0, 1000, 31);
        net.part(1);
        CHECKS.same("parted", net.send(0, 1), 0);
        CHECKS.same("lost once", net.count(3), 1);
        net.part(0);
        net.send(0, 1);
        CHECKS.same("the first draws", net.message(0, 2), 3 + draws.next(1001));
    }

    private static void fullDrawsAllTheSame() {
        NetWires net = new NetWires();
        fill(net, 199);
        Draws draws = new Draws(4);
        net.noise(0, 1000, 900, 4);
        draws.next(1000);
        draws.next(1000);
        long late = draws.next(901);
        draws.next(901);
        CHECKS.same("only the first of two has room", net.send(0, 1), 1);
        CHECKS.same("the second is lost", net.count(3), 1);
        CHECKS.same("the first one's draw", net.message(199, 2), 3 + late);
        CHECKS.same("both are lost", net.send(0, 1), 0);
        CHECKS.same("each by itself", net.count(3), 3);
        for (int i = 0; i < 4; i++) {
            draws.next(901);
        }
        CHECKS.same("no number for the lost", net.count(5), 200);
        net.run(1000);
        draws.next(1000);
        draws.next(1000);
        long first = draws.next(901);
        long second = draws.next(901);
        CHECKS.same("room again", net.send(0, 1), 2);
        CHECKS.same("the draws went on", net.message(0, 2), 1003 + Math.min(first, second));
        CHECKS.same("for both", net.message(1, 2), 1003 + Math.max(first, second));
    }

    private static void wrongNoise() {
        NetWires net = new NetWires();
        net.noise(1000, 0, 0, 1);
        for (int wrong : new int[] {-1, 1001, Integer.MIN_VALUE, Integer.MAX_VALUE}) {
            CHECKS.raises("noise(" + wrong + ", 0, 0, 0)", ARGUMENT, () -> noise(net, wrong, 0, 0));
            CHECKS.raises("noise(0, " + wrong + ", 0, 0)", ARGUMENT, () -> noise(net, 0, wrong, 0));
            CHECKS.raises("noise(0, 0, " + wrong + ", 0)", ARGUMENT, () -> noise(net, 0, 0, wrong));
        }
        CHECKS.same("the noise is as it was", net.send(0, 1), 0);
    }

    private static long noise(NetWires net, int loss, int twice, int spread) {
        net.noise(loss, twice, spread, 0);
        return 0;
    }

    private static void fill(NetWires net, int messages) {
        for (int i = 0; i < messages; i++) {
            CHECKS.same("send " + i, net.send(0, 1), 1);
        }
    }

    private static void fullWithoutNoise() {
        NetWires net = new NetWires();
        fill(net, 200);
        net.feed(1, 1);
        CHECKS.same("one too many", net.send(0, 1), 0);
        CHECKS.same("the tape is empty then", net.count(6), 0);
        CHECKS.same("on their way", net.count(1), 200);
        CHECKS.same("ever on their way", net.count(2), 200);
        CHECKS.same("lost", net.count(3), 1);
        CHECKS.same("numbers", net.count(5), 200);
        CHECKS.same("the last", net.message(199, 3), 199);
        CHECKS.same("none behind it", net.message(200, 3), NetWires.NONE);
        for (int endpoint = 0; endpoint < 16; endpoint++) {
            CHECKS.fails("alarms beside them", net.alarm(endpoint, 1));
            CHECKS.fails("syncs beside them", net.sync(endpoint, 3));
        }
        CHECKS.same("one alarm", net.step(), 32);
        CHECKS.same("still full", net.send(0, 1), 0);
        CHECKS.same("all in one run", net.run(2), 231);
        CHECKS.same("the last is the last sync", net.happened(0, 0), 63);
        CHECKS.same("room again", net.send(0, 1), 1);
    }

    private static void fullInTheMiddle() {
        NetWires net = new NetWires();
        fill(net, 200);
        net.step();
        CHECKS.same("room for one", net.send(0, 1), 1);
        CHECKS.same("and no more", net.send(0, 1), 0);
        net.meddle(0, 0, 0);
        CHECKS.same("room for one again", net.send(0, 1), 1);
        net.meddle(0, 2, 5);
        CHECKS.same("later is no room", net.send(0, 1), 0);
        CHECKS.same("it is no message less", net.count(1), 200);
    }

    private static void meddleLoses() {
        NetWires net = new NetWires();
        sendThree(net);
        CHECKS.holds("meddle(1, 0, 0)", net.meddle(1, 0, 0));
        CHECKS.same("on their way", net.count(1), 2);
        CHECKS.same("lost", net.count(3), 1);
        CHECKS.same("it is not an event that happened", net.count(4), 0);
        CHECKS.same("the first stays", net.message(0, 1), 3);
        CHECKS.same("the third is the second then", net.message(1, 1), 1);
        CHECKS.same("the alarm and the two happen", net.run(100), 3);
        CHECKS.same("no number was taken", net.count(5), 4);
    }

    /** In the order in which they arrive: to 3 at 2, to 2 at 3, to 1 at 7; an alarm at 1. */
    private static void sendThree(NetWires net) {
        net.delay(0, 1, 7);
        net.delay(0, 3, 2);
        for (int to = 1; to <= 3; to++) {
            net.feed(to * 1000, 2);
            net.send(0, to);
        }
        net.alarm(0, 1);
    }

    private static void meddleRepeats() {
        NetWires net = new NetWires();
        sendThree(net);
        net.step();
        net.delay(0, 1, 20);
        net.part(1);
        CHECKS.holds("meddle(2, 1, 0)", net.meddle(2, 1, 0));
        int[] due = {0, 1, 21, 4, 2};
        for (int what = 0; what < due.length; what++) {
            CHECKS.same("the new one: " + what, net.message(3, what), due[what]);
        }
        CHECKS.same("the old one", net.message(2, 2), 7);
        CHECKS.same("its number", net.message(2, 3), 0);
        CHECKS.same("the new one's bytes", net.messageAt(3, 0), 1000 & 255);
        CHECKS.same("the new one's second byte", net.messageAt(3, 1), 1000 >> 8);
        CHECKS.same("on their way", net.count(1), 4);
        CHECKS.same("ever on their way", net.count(2), 4);
        CHECKS.same("lost", net.count(3), 0);
        net.part(0);
        CHECKS.same("all arrive", net.run(100), 4);
    }

    private static void meddleRepeatsWithoutNoise() {
        NetWires net = new NetWires();
        net.send(0, 1);
        net.noise(1000, 1000, 1000, 3);
        CHECKS.holds("meddle(0, 1, 0)", net.meddle(0, 1, 0));
        CHECKS.same("on their way", net.count(1), 2);
        CHECKS.same("without delay", net.message(1, 2), 3);
        net.noise(0, 0, 1000, 8);
        net.meddle(0, 1, 0);
        Draws draws = new Draws(8);
        draws.next(1000);
        draws.next(1000);
        net.send(0, 1);
        CHECKS.same("nothing was drawn", net.message(3, 2), 3 + draws.next(1001));
    }

    private static void meddleRepeatsWhenFull() {
        NetWires net = new NetWires();
        fill(net, 200);
        CHECKS.holds("meddle(7, 1, 0)", net.meddle(7, 1, 0));
        CHECKS.same("on their way", net.count(1), 200);
        CHECKS.same("ever on their way", net.count(2), 200);
        CHECKS.same("lost", net.count(3), 1);
        CHECKS.same("numbers", net.count(5), 200);
    }

    private static void meddlePostpones() {
        NetWires net = new NetWires();
        sendThree(net);
        CHECKS.holds("meddle(0, 2, 1)", net.meddle(0, 2, 1));
        CHECKS.same("behind its equal", net.message(1, 1), 3);
        CHECKS.same("when", net.message(1, 2), 3);
        CHECKS.same("a new number", net.message(1, 3), 4);
        CHECKS.holds("meddle(0, 2, 0)", net.meddle(0, 2, 0));
        CHECKS.same("0 too", net.message(1, 1), 2);
        CHECKS.same("at its time", net.message(1, 2), 3);
        CHECKS.same("with a new number", net.message(1, 3), 5);
        CHECKS.holds("meddle(2, 2, 1000)", net.meddle(2, 2, 1000));
        CHECKS.same("the latest", net.message(2, 2), 1007);
        CHECKS.same("its bytes", net.messageAt(2, 0), 1000 & 255);
        CHECKS.same("from", net.message(2, 0), 0);
        CHECKS.same("on their way", net.count(1), 3);
        CHECKS.same("no message more", net.count(2), 3);
        CHECKS.same("none lost", net.count(3), 0);
        int[] due = {32, 3, 2, 1};
        for (int answer : due) {
            CHECKS.same("step", net.step(), answer);
        }
        CHECKS.same("NOW", net.count(0), 1007);
        CHECKS.same("events that happened", net.count(4), 4);
    }

    private static void wrongMeddling() {
        NetWires net = new NetWires();
        net.send(0, 1);
        int[][] wrong = {{-1, 0}, {3, 0}, {Integer.MAX_VALUE, 0}, {0, 1}, {0, -1}, {1, 1}, {1, -1}, {2, -1}, {2, 1001},
            {2, Integer.MIN_VALUE}, {2, Integer.MAX_VALUE}};
        for (int[] w : wrong) {
            for (int k : new int[] {0, 1, -1}) {
                CHECKS.raises("meddle(" + k + ", " + w[0] + ", " + w[1] + ")", ARGUMENT,
                    () -> net.meddle(k, w[0], w[1]) ? 1 : 0);
            }
        }
        for (int what = 0; what < 3; what++) {
            for (int k : new int[] {1, -1, 200, Integer.MIN_VALUE, Integer.MAX_VALUE}) {
                CHECKS.fails("meddle(" + k + ", " + what + ", 0)", net.meddle(k, what, 0));
            }
        }
        CHECKS.same("on its way", net.count(1), 1);
        CHECKS.same("none lost", net.count(3), 0);
        CHECKS.same("no number", net.count(5), 1);
        CHECKS.same("when", net.message(0, 2), 3);
    }
}
