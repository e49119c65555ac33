import java.util.HexFormat;
import java.util.function.Consumer;

/** Boundary cases: each is a run of its own and bears its promise and the words it is about. */
final class Cases {
    /** Nothing is promised about an object after these. */
    static final int MOST_CALLS = 512;
    static final int MIN = Integer.MIN_VALUE;
    static final int MAX = Integer.MAX_VALUE;

    /** The counters 0 and 1, enciphered under a key of zeros: known from tests of the cipher. */
    static final String ZERO_BLOCKS =
            "66e94bd4ef8a2c3b884cfa59ca342b2e58e2fccefa7e3061367f1d57a4e7455a";
    /** send(0) of an empty payload: the length 12, eleven bytes of padding. */
    static final String EMPTY_PACKET = "0000000c0b00254a6f94b9de03284d72";

    private static final byte[] ZERO_STREAM = HexFormat.of().parseHex(ZERO_BLOCKS);

    private final Check check = new Check();
    private int cases;

    /** A case of a promise, or of a term, about some words of the document. */
    void at(String promise, String words, Consumer<Twin> run) {
        String name = promise + ", \"" + words + "\"";
        Twin twin = new Twin(check, name);
        run.accept(twin);
        check.holds(name + ": asks something", twin.calls() > 0);
        check.holds(name + ": keeps to 512 calls", twin.calls() <= MOST_CALLS);
        cases++;
    }

    /** An object beside the case's own one, to compare with it. */
    Twin another(String name) {
        return new Twin(check, name);
    }

    Check check() {
        return check;
    }

    void end(String test) {
        System.out.println(test + ": " + cases + " cases");
        check.end(test);
    }

    /** Byte i of a packet before it was enciphered; the first on the way, by keys of zeros. */
    static long plain(Twin t, int i) {
        return t.octet(i) ^ (ZERO_STREAM[i] & 255);
    }

    /** Bytes on the way from one on are those written as hexadecimal digits. */
    static void dueOctets(Twin t, int from, String digits) {
        byte[] bytes = HexFormat.of().parseHex(digits);
        for (int i = 0; i < bytes.length; i++) {
            t.due("octet(" + (from + i) + ")", t.octet(from + i), bytes[i] & 255);
        }
    }

    /** A packet's first block on the way is this plain text, enciphered by this block. */
    static void dueBlock(Twin t, int from, String plain, String block) {
        byte[] text = HexFormat.of().parseHex(plain);
        byte[] mask = HexFormat.of().parseHex(block);
        for (int i = 0; i < 16; i++) {
            t.due("octet(" + (from + i) + ")", t.octet(from + i), (text[i] ^ mask[i]) & 255);
        }
    }

    /** Sends packets of no payload until so many bytes of them are on the way, 48 each. */
    static void sendEmpty(Twin t, int packets) {
        for (int i = 0; i < packets; i++) {
            t.due("send(" + i + ")", t.send(i), 48);
        }
    }

    /** Links and opens what is on the way: it is one packet. */
    static long pass(Twin t) {
        t.link(MAX);
        return t.take();
    }
}
