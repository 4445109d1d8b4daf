import java.math.BigInteger;

/** What the tests of the document's edges have in common. */
final class Edges {
    static final Class<IndexOutOfBoundsException> INDEX = IndexOutOfBoundsException.class;
    static final Class<IllegalArgumentException> ARGUMENT = IllegalArgumentException.class;
    static final Class<IllegalStateException> STATE = IllegalStateException.class;
    static final int NONE = -1;

    private static final BigInteger ALL_LONGS = BigInteger.ONE.shiftLeft(64);
    private static final BigInteger FACTOR = new BigInteger("6364136223846793005");
    private static final BigInteger SUMMAND = new BigInteger("1442695040888963407");

    private Edges() {
    }

    /** One beyond each end, and some that a narrower type or a sum that wraps would bring back inside. */
    static int[] beyond(int lowest, int highest) {
        return new int[] {lowest - 1, highest + 1, highest + 256, highest + (1 << 16), highest + (1 << 24),
            lowest - (1 << 20), Integer.MIN_VALUE, Integer.MIN_VALUE + 1, Integer.MAX_VALUE};
    }

    static long bit(boolean value) {
        return value ? 1 : 0;
    }

    /** All that can be looked at without a change, in some 80 calls. */
    static String state(NetWires net) {
        StringBuilder all = new StringBuilder();
        for (int what = 0; what < 8; what++) {
            all.append(net.count(what)).append(' ');
        }
        for (int endpoint = 0; endpoint < 16; endpoint++) {
            all.append(net.when(endpoint, 0)).append(',').append(net.when(endpoint, 1)).append(' ');
        }
        int messages = Math.min(net.count(1), 4);
        for (int k = 0; k < messages; k++) {
            for (int what = 0; what < 5; what++) {
                all.append(net.message(k, what)).append(what < 4 ? ',' : ' ');
            }
        }
        for (int what = 0; what < 4; what++) {
            all.append(net.happened(0, what)).append(' ');
        }
        return all.toString();
    }

    /** Messages from 0 to 1, without bytes. */
    static void fill(NetWires net, int messages) {
        for (int i = 0; i < messages; i++) {
            net.send(0, 1);
        }
    }

    /** Bytes come behind the tape, each one's value its place: from one place to the one before another. */
    static void feedBytes(NetWires net, int from, int to) {
        for (int at = from; at < to; at += 8) {
            int n = Math.min(8, to - at);
            long eight = 0;
            for (int i = 0; i < n; i++) {
                eight |= ((at + i) & 255L) << (8 * i);
            }
            net.feed(eight, n);
        }
    }

    /** The DRAW that becomes this one after so many uses. */
    static long drawBefore(long draw, int uses) {
        BigInteger value = BigInteger.valueOf(draw);
        BigInteger back = FACTOR.modInverse(ALL_LONGS);
        for (int i = 0; i < uses; i++) {
            value = value.subtract(SUMMAND).multiply(back).mod(ALL_LONGS);
        }
        return value.longValue();
    }

    /** A DRAW of which this is what is used, before the mod. */
    static long drawOf(int used) {
        return (long) used << 33;
    }

    /** The document's draws one by one, without a long that wraps. */
    static final class Draws {
        private BigInteger draw;

        Draws(long draw) {
            this.draw = BigInteger.valueOf(draw).mod(ALL_LONGS);
        }

        int next(int m) {
            draw = draw.multiply(FACTOR).add(SUMMAND).mod(ALL_LONGS);
            return draw.shiftRight(33).mod(BigInteger.valueOf(m)).intValue();
        }

        void skip(int uses) {
            for (int i = 0; i < uses; i++) {
                next(1);
            }
        }
    }
}
