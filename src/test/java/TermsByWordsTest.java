import java.math.BigInteger;
import java.util.Random;

/**
 * Packets by the document's own words: that its field, S, block, digest and seal are those of the
 * library, which the model uses, is no more than a belief until both are compared with the words.
 */
public final class TermsByWordsTest {
    private static final Check CHECK = new Check();
    private static final int SEEDS = 24;
    private static final int[] SIZES = {0, 7, 8, 23, 100, 120, 500};

    private final Words words;
    private final Random random;
    private final Twin twin;
    private final int[] keys = new int[16];
    private BigInteger counter = BigInteger.ZERO;
    private int sent;

    private TermsByWordsTest(Words words, int seed) {
        this.words = words;
        random = new Random(seed);
        twin = new Twin(CHECK, "by words, seed " + seed);
    }

    public static void main(String[] args) {
        Words words = new Words();
        for (int seed = 0; seed < SEEDS; seed++) {
            new TermsByWordsTest(words, seed).run(seed);
        }
        CHECK.due("values of a byte that went by S", words.bytesSubstituted(), 256);
        CHECK.end("TermsByWordsTest");
    }

    private void run(int seed) {
        if (seed % 4 != 0) {
            turn(seed % 4);
        }
        int size = SIZES[seed % SIZES.length];
        int packets = size > 100 ? 1 : 2;
        for (int i = 0; i < packets; i++) {
            packet(size, seed);
        }
        twin.turn(0);
        counter = firstCounter();
        packet(3, seed);
        CHECK.holds("seed " + seed + " keeps to 512 calls", twin.calls() <= Cases.MOST_CALLS);
    }

    /** Keys drawn by chance; the counter's lowest words may be the last before it is carried. */
    private void turn(int ones) {
        for (int i = 0; i < 16; i++) {
            keys[i] = i < 8 && i > 8 - ones ? -1 : random.nextInt();
            twin.key(i, keys[i]);
        }
        twin.turn(0);
        counter = firstCounter();
    }

    private BigInteger firstCounter() {
        BigInteger first = BigInteger.ZERO;
        for (int i = 4; i < 8; i++) {
            first = first.shiftLeft(32).add(BigInteger.valueOf(keys[i] & 0xffffffffL));
        }
        return first;
    }

    /** The octets of a long packet are looked at here and there, for the sake of the 512 calls. */
    private void packet(int size, int seed) {
        int[] payload = new int[size];
        for (int i = 0; i < size; i++) {
            payload[i] = random.nextInt(256);
        }
        put(payload);
        int pad = random.nextInt();
        int[] due = words.packet(keys, counter, sent, payload, pad);
        int before = (int) twin.onTheWay();
        twin.due("send(" + pad + ")", twin.send(pad), due.length);
        int step = due.length > 200 ? 3 : 1;
        for (int i = seed % step; i < due.length; i += step) {
            twin.due("octet(" + (before + i) + ")", twin.octet(before + i), due[i]);
        }
        counter = counter.add(BigInteger.valueOf((due.length - 32) / 16));
        sent++;
    }

    private void put(int[] payload) {
        for (int i = 0; i < payload.length; i += 4) {
            int many = Math.min(4, payload.length - i);
            int word = 0;
            for (int j = 0; j < many; j++) {
                word = word << 8 | payload[i + j];
            }
            twin.put(word, many);
        }
    }
}
