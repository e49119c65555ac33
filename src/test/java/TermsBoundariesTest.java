import java.util.Arrays;
import java.util.HexFormat;

/** The boundary cases that the terms name, each in a case of its own. */
public final class TermsBoundariesTest {
    private static final Cases CASES = new Cases();
    private static final int MIN = Cases.MIN;
    private static final int MAX = Cases.MAX;
    private static final int NONE = PacketGuard.NONE;
    private static final String ZERO_BLOCK = "66e94bd4ef8a2c3b884cfa59ca342b2e";

    public static void main(String[] args) {
        calls("What it is (all promises)");
        bytes("Terms: bytes (promises 8, 12)");
        blocks("Terms: a block (promise 5)");
        digests("Terms: the digest (promise 5)");
        seals("Terms: the seal (promise 5)");
        keys("Terms: keys (promises 2, 3)");
        numbers("Terms: numbers (promise 13)");
        packets("Terms: a packet (promise 5)");
        counters("Terms: the counter (promises 5, 11)");
        lengths("Terms: the receiver, fault 2 (promise 11)");
        seal("Terms: the receiver, fault 3 (promise 11)");
        paddings("Terms: the receiver, fault 4 (promise 11)");
        dead("Terms: the receiver is dead (promise 11)");
        CASES.end("TermsBoundariesTest");
    }

    private static void calls(String term) {
        CASES.at(term, "at most 512 calls: the 512th", t -> {
            for (int i = 0; i < 128; i++) {
                t.due("put", t.put(i, 4), 4);
                t.due("send", t.send(i), 48);
                t.due("link", t.link(48), 48);
                t.due("take()", t.take(), 4);
            }
            t.due("calls", t.calls(), 512);
        });
    }

    private static void bytes(String term) {
        CASES.at(term, "BYTES are 0 .. 255: got", t -> {
            t.put(0x007f80ff, 4);
            t.send(0);
            t.due("take()", Cases.pass(t), 4);
            t.due("got(0)", t.got(0), 0);
            t.due("got(1)", t.got(1), 127);
            t.due("got(2)", t.got(2), 128);
            t.due("got(3)", t.got(3), 255);
        });
        CASES.at(term, "BYTES are 0 .. 255: octet", t -> {
            t.send(0);
            int[] due = {0, 127, 128, 255};
            for (int i = 0; i < 4; i++) {
                t.alter(i, (int) t.octet(i));
                t.due("octet, altered to 0", t.octet(i), 0);
                t.alter(i, due[i]);
                t.due("octet", t.octet(i), due[i]);
            }
        });
    }

    private static void blocks(String term) {
        CASES.at(term, "0 for 0: S in a key and a counter of zeros", t -> {
            t.send(0);
            Cases.dueBlock(t, 0, Cases.EMPTY_PACKET, ZERO_BLOCK);
        });
        CASES.at(term, "each byte by S: a key of ones", t -> {
            for (int i = 0; i < 4; i++) {
                t.key(i, -1);
            }
            t.turn(0);
            t.send(0);
            Cases.dueBlock(t, 0, Cases.EMPTY_PACKET, "a1f6258c877d5fcd8964484538bfc92c");
        });
        CASES.at(term, "each byte by S: of every value, by 32 blocks", t -> {
            t.keys(5);
            t.turn(0);
            t.fill(500);
            t.send(0);
            for (int i = 128; i < 512; i += 2) {
                t.octet(i);
            }
        });
        CASES.at(term, "each twice the one before, in the field: the cipher's own example", t -> {
            int[] words = {0x00010203, 0x04050607, 0x08090a0b, 0x0c0d0e0f,
                0x00112233, 0x44556677, 0x8899aabb, 0xccddeeff};
            for (int i = 0; i < 8; i++) {
                t.key(i, words[i]);
            }
            t.turn(0);
            t.send(0);
            Cases.dueBlock(t, 0, Cases.EMPTY_PACKET, "69c4e0d86a7b0430d8cdb78070b4c55a");
        });
    }

    /** The digested texts have 84, 100, .. bytes: all that packets bring them to. */
    private static void digests(String term) {
        for (int blocks = 1; blocks <= 32; blocks += blocks < 9 ? 1 : 23) {
            int payload = Math.min(16 * blocks - 9, 500);
            int whole = 16 * blocks;
            CASES.at(term, "as bring the length to 448 modulo 512: of " + blocks + " blocks", t -> {
                t.fill(payload);
                t.due("send", t.send(0), whole + 32);
                byte[] plain = Model.streamOfZeroKeys(Arrays.copyOf(t.model.way(), whole));
                byte[] want = Model.packetOfZeroKeys(plain);
                for (int i = whole; i < whole + 32; i++) {
                    t.due("octet(" + i + ")", t.octet(i), want[i] & 255);
                }
                t.due("octet behind the seal", t.octet(whole + 32), Twin.INDEX);
            });
        }
        CASES.at(term, "as bring the length to 448 modulo 512: the longest that is opened", t -> {
            long answer = openLongest(t);
            t.due("take() of 544 bytes and a seal", answer, 535);
        });
    }

    /** A packet of length 540, of one that is forged and others that are altered behind it. */
    private static long openLongest(Twin t) {
        t.forge(540, 4);
        for (int i = 0; i < 11; i++) {
            t.send(0);
        }
        byte[] have = t.model.way();
        byte[] want = Model.packetOfZeroKeys(Model.streamOfZeroKeys(Arrays.copyOf(have, 544)));
        for (int i = 544; i < 576; i++) {
            t.alter(i, have[i] ^ want[i]);
        }
        return Cases.pass(t);
    }

    private static void seals(String term) {
        CASES.at(term, "the key is brought to 64 bytes by zeros: a key of zeros", t -> {
            t.send(0);
            Cases.dueOctets(t, 16, "4542104d0baefb8c5971351a6fdd7826"
                    + "1fff3aed4d324c016f1f06031530a854");
            t.due("octet(48)", t.octet(48), Twin.INDEX);
        });
        int[][] words = {{8, MIN}, {8, 1}, {11, -1}, {12, -1}, {15, MIN}, {15, 1}};
        for (int[] word : words) {
            CASES.at(term, "a key of 32 bytes: word " + word[0] + " is " + word[1], t -> {
                t.key(word[0], word[1]);
                t.turn(0);
                t.send(0);
                Cases.dueBlock(t, 0, Cases.EMPTY_PACKET, ZERO_BLOCK);
                Cases.dueOctets(t, 16, sealOfEmptyPacket(word[0], word[1]));
                t.due("not the seal by zeros", Cases.pass(t), -3);
            });
        }
    }

    private static String sealOfEmptyPacket(int word, int value) {
        int[] keys = new int[16];
        keys[word] = value;
        byte[] plain = HexFormat.of().parseHex(Cases.EMPTY_PACKET);
        return HexFormat.of().formatHex(Model.seal(keys, 0, plain));
    }

    private static void keys(String term) {
        CASES.at(term, "0 .. 3 the key for blocks: 3 is of it", t -> {
            t.key(3, 1);
            t.turn(0);
            t.send(0);
            Cases.dueBlock(t, 0, Cases.EMPTY_PACKET, "0545aad56da2a97c3663d1432a3d1c84");
            Cases.dueOctets(t, 16, "4542104d0baefb8c5971351a6fdd7826");
        });
        CASES.at(term, "4 .. 7 the COUNTER: 7 is its lowest word", t -> {
            t.key(7, 1);
            t.turn(0);
            t.send(0);
            Cases.dueBlock(t, 0, Cases.EMPTY_PACKET, "58e2fccefa7e3061367f1d57a4e7455a");
            Cases.dueOctets(t, 16, "4542104d0baefb8c5971351a6fdd7826");
        });
        CASES.at(term, "4 .. 7 the COUNTER: 4 is its highest word", t -> {
            t.key(4, MIN);
            t.turn(0);
            t.send(0);
            // The first of the cipher's tests of single bits.
            Cases.dueBlock(t, 0, Cases.EMPTY_PACKET, "3ad78e726c1ec02b7ebfe92b23d9ec34");
        });
        CASES.at(term, "8 .. 15 the key for seals: 8 is of it, and of nothing else", t -> {
            t.key(8, 1);
            t.turn(0);
            t.send(0);
            Cases.dueBlock(t, 0, Cases.EMPTY_PACKET, ZERO_BLOCK);
            t.due("another seal", Cases.pass(t), -3);
        });
    }

    private static void numbers(String term) {
        CASES.at(term, "NUMBERS 0, 1, ..", t -> {
            t.send(0);
            t.turn(0);
            t.send(0);
            Cases.dueOctets(t, 16, "4542104d0baefb8c5971351a6fdd7826");
            Cases.dueOctets(t, 64, "e86403aed388b4505a7de5b282406fa9");
        });
        CASES.at(term, "whatever keys", t -> {
            for (int i = 0; i < 3; i++) {
                t.key(15, i);
                t.turn(0);
                t.turn(1);
                t.due("number(0)", t.number(0), i);
                t.due("number(1)", t.number(1), i);
                t.send(0);
                t.due("take()", Cases.pass(t), 0);
            }
        });
        CASES.at(term, "32 bits: the highest with its sign", t -> {
            t.setNumbers(MAX, MAX);
            t.due("number(0)", t.number(0), MAX);
            t.send(0);
            Cases.dueOctets(t, 16, "b8bde44ec2e3dbdc9c92613b2ccd5b44");
            t.due("number(0)", t.number(0), MIN);
            t.due("take()", Cases.pass(t), 0);
            t.due("number(1)", t.number(1), MIN);
            t.turn(0);
            t.turn(1);
            t.send(0);
            Cases.dueOctets(t, 16, "8147f3726437e180babe9ab00ca335ec");
            t.due("take()", Cases.pass(t), 0);
        });
        CASES.at(term, "they wrap: the sender's", t -> {
            t.setNumbers(-1, -1);
            t.due("number(0)", t.number(0), -1);
            t.send(0);
            Cases.dueOctets(t, 16, "4a06e20ff774b3a768482ef484fa15a3");
            t.due("number(0)", t.number(0), 0);
            t.turn(0);
            t.send(0);
            Cases.dueOctets(t, 64, "4542104d0baefb8c5971351a6fdd7826");
            t.due("number(0)", t.number(0), 1);
        });
        CASES.at(term, "they wrap: the receiver's", t -> {
            t.setNumbers(-1, -1);
            t.send(0);
            t.send(0);
            t.link(MAX);
            t.due("number(1)", t.number(1), -1);
            t.due("take() of the last number", t.take(), 0);
            t.due("number(1)", t.number(1), 0);
            t.due("take() of number 0", t.take(), 0);
            t.due("number(1)", t.number(1), 1);
        });
        CASES.at(term, "the packet's number (four bytes, highest first)", t -> {
            t.setNumbers(0x01020304, 0x01020304);
            t.send(0);
            byte[] plain = HexFormat.of().parseHex(Cases.EMPTY_PACKET);
            Cases.dueOctets(t, 16, HexFormat.of().formatHex(
                    Model.seal(new int[16], 0x01020304, plain)));
            t.due("take()", Cases.pass(t), 0);
        });
    }

    private static void packets(String term) {
        // Payload, length, padding: the longest padding is 19, the shortest 4.
        int[][] sizes = {{0, 12, 11}, {6, 12, 5}, {7, 12, 4}, {8, 28, 19}, {9, 28, 18}, {23, 28, 4},
            {24, 44, 19}, {487, 492, 4}, {488, 508, 19}, {500, 508, 7}};
        for (int[] size : sizes) {
            CASES.at(term, "the least number of bytes, 4 at least: of a payload of " + size[0],
                    t -> {
                t.fill(size[0]);
                t.due("send", t.send(0), size[1] + 4 + 32);
                t.due("byte 0", Cases.plain(t, 0), 0);
                t.due("byte 1", Cases.plain(t, 1), 0);
                t.due("byte 2", Cases.plain(t, 2), size[1] >> 8);
                t.due("byte 3", Cases.plain(t, 3), size[1] & 255);
                t.due("byte 4", Cases.plain(t, 4), size[2]);
            });
        }
        CASES.at(term, "the seal (not enciphered): the counter is not for it", t -> {
            t.send(0);
            t.send(0);
            Cases.dueBlock(t, 48, Cases.EMPTY_PACKET, "58e2fccefa7e3061367f1d57a4e7455a");
        });
        CASES.at(term, "goes up by one for each sixteen bytes: of two blocks", t -> {
            t.fill(8);
            t.send(0);
            t.send(0);
            Cases.dueBlock(t, 64, Cases.EMPTY_PACKET, "0388dace60b6a392f328c2b971b2fe78");
        });
    }

    private static void counters(String term) {
        CASES.at(term, "one number of 128 bits: it wraps between two packets", t -> {
            onesForCounter(t, 4);
            t.send(0);
            t.send(0);
            Cases.dueBlock(t, 0, Cases.EMPTY_PACKET, "3f5b8cc9ea855a0afa7347d23e8d664e");
            Cases.dueBlock(t, 48, Cases.EMPTY_PACKET, ZERO_BLOCK);
            t.link(MAX);
            t.due("take()", t.take(), 0);
            t.due("take()", t.take(), 0);
        });
        CASES.at(term, "one number of 128 bits: it wraps within a packet", t -> {
            onesForCounter(t, 4);
            t.put(0, 4);
            t.put(0, 4);
            t.send(0);
            t.send(0);
            Cases.dueBlock(t, 16, "6f94b9de03284d7297bce1062b50759a", ZERO_BLOCK);
            Cases.dueBlock(t, 64, Cases.EMPTY_PACKET, "58e2fccefa7e3061367f1d57a4e7455a");
            t.link(MAX);
            t.due("take()", t.take(), 8);
            t.due("take()", t.take(), 0);
        });
        for (int words = 1; words <= 3; words++) {
            int ones = words;
            CASES.at(term, "highest word first: carried over " + words + " words", t -> {
                Twin carried = CASES.another("a counter that is carried over");
                carried.key(7 - ones, 1);
                carried.turn(0);
                carried.send(0);
                onesForCounter(t, ones);
                t.send(0);
                t.send(0);
                for (int i = 0; i < 16; i++) {
                    t.due("octet(" + (48 + i) + ")", t.octet(48 + i), carried.octet(i));
                }
                t.link(MAX);
                t.due("take()", t.take(), 0);
                t.due("take()", t.take(), 0);
            });
        }
        CASES.at(term, "one number of 128 bits: a word's sign is none", t -> {
            t.key(7, MAX);
            t.turn(0);
            t.turn(1);
            t.send(0);
            t.send(0);
            Twin next = CASES.another("a counter with a highest bit");
            next.key(7, MIN);
            next.turn(0);
            next.send(0);
            for (int i = 0; i < 16; i++) {
                t.due("octet(" + (48 + i) + ")", t.octet(48 + i), next.octet(i));
            }
            t.link(MAX);
            t.due("take()", t.take(), 0);
            t.due("take()", t.take(), 0);
        });
    }

    /** The counter's lowest words are all ones, for both sides. */
    private static void onesForCounter(Twin t, int words) {
        for (int i = 0; i < words; i++) {
            t.key(7 - i, -1);
        }
        t.turn(0);
        t.turn(1);
    }

    private static void lengths(String term) {
        int[] below = {-4, -20, 11, 0, -1, 10, 1};
        for (int length : below) {
            CASES.at(term, "below 12: " + length, t -> dueLength(t, length, -2));
        }
        int[] signed = {MIN + 12, MIN, -4, 0xff00000c, 0x8000021c};
        for (int length : signed) {
            CASES.at(term, "as a number of 32 bits with its sign: " + length,
                    t -> dueLength(t, length, -2));
        }
        int[] above = {541, 556, 1036, 65548, 0x0100000c, MAX - 3, MAX};
        for (int length : above) {
            CASES.at(term, "above 540: " + length, t -> dueLength(t, length, -2));
        }
        int[] between = {13, 14, 16, 20, 24, 27, 29, 28 + 15, 524 - 1, 524 + 1, 539};
        for (int length : between) {
            CASES.at(term, "not 12 modulo 16: " + length, t -> dueLength(t, length, -2));
        }
        int[] good = {12, 28, 44, 268, 508, 524, 540};
        for (int length : good) {
            CASES.at(term, "below 12, above 540, or not 12 modulo 16: not so " + length,
                    t -> dueLength(t, length, NONE));
        }
        CASES.at(term, "by its keys and counter then", t -> {
            t.key(15, 1);
            t.turn(0);
            t.turn(1);
            t.send(0);
            t.link(16);
            t.due("take() sees the length", t.take(), NONE);
            t.key(0, -1);
            t.key(15, 0);
            t.turn(1);
            t.due("take() by the keys before", Cases.pass(t), 0);
        });
    }

    /** With fifteen bytes nothing is known, with sixteen the length. */
    private static void dueLength(Twin t, int length, int due) {
        t.forge(length, 4);
        t.link(15);
        t.due("take() of fifteen", t.take(), NONE);
        t.link(1);
        t.due("take() of sixteen", t.take(), due);
        t.due("take(), again", t.take(), due);
        t.due("number(1)", t.number(1), 0);
    }

    private static void seal(String term) {
        for (int i = 0; i < 32; i++) {
            int at = 16 + i;
            CASES.at(term, "if the seal is another one: in byte " + i, t -> {
                t.send(0);
                t.alter(at, 1 << at % 8);
                t.link(47);
                t.due("take(), not all there", t.take(), NONE);
                t.link(1);
                t.due("take()", t.take(), -3);
            });
        }
        for (int i = 4; i < 16; i++) {
            int at = i;
            CASES.at(term, "if the seal is another one: the packet's byte " + i, t -> {
                t.send(0);
                t.alter(at, 128);
                t.due("take()", Cases.pass(t), -3);
            });
        }
        CASES.at(term, "if the seal is another one: the packet's number", t -> {
            // The same keys again: only the number tells the second packet from the first.
            t.send(0);
            t.turn(0);
            t.send(0);
            t.due("take()", Cases.pass(t), 0);
            t.turn(1);
            t.setNumbers(2, 0);
            t.due("take() by number 0", t.take(), -3);
        });
        CASES.at(term, "When all of it is there with its seal: fault 3 goes before fault 4", t -> {
            t.forge(12, 3);
            t.alter(16, 1);
            t.due("take()", Cases.pass(t), -3);
        });
        CASES.at(term, "When all of it is there with its seal: of a length altered", t -> {
            t.fill(8);
            t.send(0);
            t.alter(3, 28 ^ 12);
            t.link(47);
            t.due("take() of 47", t.take(), NONE);
            t.link(1);
            t.due("take() of 48", t.take(), -3);
        });
    }

    private static void paddings(String term) {
        int[][] told = {{12, 0, -4}, {12, 3, -4}, {12, 4, 7}, {12, 11, 0}, {12, 12, -4},
            {12, 13, -4}, {12, 255, -4}, {28, 3, -4}, {28, 4, 23}, {28, 27, 0}, {28, 28, -4},
            {28, 255, -4}, {252, 4, 247}, {252, 251, 0}, {252, 252, -4}, {252, 255, -4},
            {268, 255, 12}, {268, 0, -4}, {508, 3, -4}, {508, 4, 503}, {508, 255, 252}};
        for (int[] row : told) {
            CASES.at(term, "below 4, or more than the length less 1: padding " + row[1]
                    + " of length " + row[0], t -> {
                t.fill(Math.min(row[0] - 5, 500));
                t.due("forge", t.forge(row[0], row[1]), row[0] + 36);
                t.link(row[0] + 35);
                t.due("take(), not all there", t.take(), NONE);
                t.link(1);
                t.due("take()", t.take(), row[2]);
                t.due("number(1)", t.number(1), row[2] < 0 ? 0 : 1);
            });
        }
    }

    private static void dead(String term) {
        int[][] faults = {{13, 4, 0, -2}, {12, 4, 1, -3}, {12, 3, 0, -4}};
        for (int[] fault : faults) {
            CASES.at(term, "it opens nothing more: behind " + fault[3], t -> {
                t.put(1, 1);
                t.send(0);
                t.forge(fault[0], fault[1]);
                t.alter(95, fault[2]);
                t.send(0);
                t.link(MAX);
                t.due("take() of the first", t.take(), 1);
                for (int i = 0; i < 4; i++) {
                    t.due("take()", t.take(), fault[3]);
                }
                t.due("number(1)", t.number(1), 1);
                t.due("got(0)", t.got(0), 1);
                t.send(0);
                t.due("link(48)", t.link(48), 48);
                t.due("take()", t.take(), fault[3]);
            });
            CASES.at(term, "until it begins anew: behind " + fault[3], t -> {
                t.forge(fault[0], fault[1]);
                t.alter(47, fault[2]);
                t.due("take()", Cases.pass(t), fault[3]);
                t.begin();
                t.due("take()", t.take(), NONE);
                t.put(9, 1);
                t.send(0);
                t.due("take()", Cases.pass(t), 1);
                t.due("number(1)", t.number(1), 1);
            });
        }
    }
}
