import java.util.HexFormat;

/** The boundary cases that promises 1 to 6 name, each in a case of its own. */
public final class SendingBoundariesTest {
    private static final Cases CASES = new Cases();
    private static final int MIN = Cases.MIN;
    private static final int MAX = Cases.MAX;
    /** The lowest byte of the last word that fill(500) puts. */
    private static final int LAST_OF_500 = 496 * 0x9e3779b1 + 5 & 255;

    public static void main(String[] args) {
        newObject("Promise 1: a new object");
        key("Promise 2: key");
        turn("Promise 3: turn");
        turnOfReceiver("Promise 3: turn");
        put("Promise 4: put");
        putTooMuch("Promise 4: put");
        send("Promise 5: send");
        sendTooMuch("Promise 5: send");
        forge("Promise 6: forge");
        forgeTooMuch("Promise 6: forge");
        CASES.end("SendingBoundariesTest");
    }

    private static void newObject(String promise) {
        CASES.at(promise, "All keys are 0: the sender's", t -> {
            t.send(0);
            Cases.dueBlock(t, 0, Cases.EMPTY_PACKET, "66e94bd4ef8a2c3b884cfa59ca342b2e");
            Cases.dueOctets(t, 16, "4542104d0baefb8c5971351a6fdd7826"
                    + "1fff3aed4d324c016f1f06031530a854");
        });
        CASES.at(promise, "All keys are 0: the receiver's", t -> {
            t.send(0);
            t.due("opened by keys of zeros", Cases.pass(t), 0);
        });
        CASES.at(promise, "All keys are 0: the next ones", t -> {
            t.turn(0);
            t.turn(1);
            t.send(0);
            Cases.dueBlock(t, 0, Cases.EMPTY_PACKET, "66e94bd4ef8a2c3b884cfa59ca342b2e");
            t.due("opened by keys of zeros", Cases.pass(t), 0);
        });
        CASES.at(promise, "nothing is sent", t -> {
            t.due("onTheWay()", t.onTheWay(), 0);
            t.due("octet(0)", t.octet(0), Twin.INDEX);
            t.due("alter(0, 1)", t.alter(0, 1), Twin.INDEX);
            t.due("number(0)", t.number(0), 0);
            t.due("number(1)", t.number(1), 0);
            t.due("link(1)", t.link(1), 0);
            t.due("take()", t.take(), PacketGuard.NONE);
            t.due("got(0)", t.got(0), Twin.INDEX);
            t.due("put(7, 1) to an empty payload", t.put(7, 1), 1);
        });
    }

    private static void key(String promise) {
        CASES.at(promise, "Word i of the NEXT keys is v: the first word's highest bit", t -> {
            t.key(0, MIN);
            t.turn(0);
            t.send(0);
            Cases.dueBlock(t, 0, Cases.EMPTY_PACKET, "0edd33d3c621e546455bd8ba1418bec8");
        });
        CASES.at(promise, "Word i of the NEXT keys is v: the last word's lowest bit", t -> {
            t.key(15, 1);
            t.turn(0);
            t.send(0);
            Cases.dueBlock(t, 0, Cases.EMPTY_PACKET, "66e94bd4ef8a2c3b884cfa59ca342b2e");
            t.due("another seal for the receiver", Cases.pass(t), -3);
        });
        CASES.at(promise, "Word i of the NEXT keys is v: not of the sides'", t -> {
            for (int i = 0; i < 16; i++) {
                t.key(i, -1);
            }
            t.send(0);
            Cases.dueBlock(t, 0, Cases.EMPTY_PACKET, "66e94bd4ef8a2c3b884cfa59ca342b2e");
            t.due("opened by keys of zeros", Cases.pass(t), 0);
        });
        CASES.at(promise, "Word i of the NEXT keys is v: the latest v", t -> {
            for (int i = 0; i < 16; i++) {
                t.key(i, MAX);
                t.key(i, 0);
            }
            t.turn(0);
            t.send(0);
            Cases.dueBlock(t, 0, Cases.EMPTY_PACKET, "66e94bd4ef8a2c3b884cfa59ca342b2e");
            t.due("opened by keys of zeros", Cases.pass(t), 0);
        });
        int[] wrong = {-1, 16, 17, MIN, MAX};
        for (int i : wrong) {
            CASES.at(promise, "IndexOutOfBoundsException when i is not 0 .. 15: " + i, t -> {
                t.due("key(0, 0)", t.key(0, 0), 0);
                t.due("key(15, 0)", t.key(15, 0), 0);
                t.due("key", t.key(i, -1), Twin.INDEX);
                t.turn(0);
                t.send(0);
                Cases.dueBlock(t, 0, Cases.EMPTY_PACKET, "66e94bd4ef8a2c3b884cfa59ca342b2e");
                t.due("opened by keys of zeros", Cases.pass(t), 0);
            });
        }
    }

    private static void turn(String promise) {
        CASES.at(promise, "0 the sender: it alone", t -> {
            t.key(15, 1);
            t.turn(0);
            t.send(0);
            t.due("the receiver's keys are others", Cases.pass(t), -3);
        });
        CASES.at(promise, "1 the receiver: it alone", t -> {
            t.key(15, 1);
            t.turn(1);
            t.send(0);
            Cases.dueOctets(t, 16, "4542104d0baefb8c5971351a6fdd7826");
            t.due("the receiver's keys are others", Cases.pass(t), -3);
        });
        CASES.at(promise, "as they are now", t -> {
            t.key(0, MIN);
            t.turn(0);
            t.turn(1);
            t.key(0, 1);
            t.send(0);
            Cases.dueBlock(t, 0, Cases.EMPTY_PACKET, "0edd33d3c621e546455bd8ba1418bec8");
            t.due("opened by the keys of the turn", Cases.pass(t), 0);
        });
        CASES.at(promise, "as they are now: their counter stays, a side's goes up", t -> {
            t.turn(0);
            t.send(0);
            t.turn(0);
            t.send(0);
            Cases.dueBlock(t, 48, Cases.EMPTY_PACKET, "66e94bd4ef8a2c3b884cfa59ca342b2e");
            t.send(0);
            Cases.dueBlock(t, 96, Cases.EMPTY_PACKET, "58e2fccefa7e3061367f1d57a4e7455a");
        });
        CASES.at(promise, "from its next packet on: none before it", t -> {
            t.send(0);
            t.key(0, MIN);
            t.turn(0);
            Cases.dueBlock(t, 0, Cases.EMPTY_PACKET, "66e94bd4ef8a2c3b884cfa59ca342b2e");
            t.send(0);
            Cases.dueBlock(t, 48, Cases.EMPTY_PACKET, "0edd33d3c621e546455bd8ba1418bec8");
        });
        CASES.at(promise, "from its next packet on: all behind it", t -> {
            t.key(15, 1);
            t.turn(0);
            t.turn(1);
            for (int i = 0; i < 3; i++) {
                t.send(0);
                t.due("opened by the same keys", Cases.pass(t), 0);
            }
        });
        CASES.at(promise, "from its next packet on: a payload that is being made is of it", t -> {
            t.put(1, 4);
            t.key(0, MIN);
            t.turn(0);
            t.send(0);
            Cases.dueBlock(t, 0, "0000000c070000000100254a6f94b9de",
                    "0edd33d3c621e546455bd8ba1418bec8");
        });
        int[] wrong = {-1, 2, MIN, MAX};
        for (int side : wrong) {
            CASES.at(promise, "IndexOutOfBoundsException when there is no such side: " + side,
                    t -> {
                t.key(0, -1);
                t.key(15, -1);
                t.due("turn", t.turn(side), Twin.INDEX);
                t.send(0);
                Cases.dueBlock(t, 0, Cases.EMPTY_PACKET, "66e94bd4ef8a2c3b884cfa59ca342b2e");
                t.due("opened by keys of zeros", Cases.pass(t), 0);
                t.due("turn(0)", t.turn(0), 0);
                t.due("turn(1)", t.turn(1), 0);
            });
        }
    }

    private static void turnOfReceiver(String promise) {
        String words = "if take has seen sixteen bytes of the next one already";
        int[] notSeen = {0, 1, 15};
        for (int many : notSeen) {
            CASES.at(promise, words + ": it has seen " + many, t -> {
                sendByLastSealKey(t);
                t.link(many);
                t.due("take()", t.take(), PacketGuard.NONE);
                t.turn(1);
                t.due("take() of this one", Cases.pass(t), 0);
            });
        }
        int[] came = {16, 47, 48};
        for (int many : came) {
            CASES.at(promise, words + ": " + many + " came, but no take", t -> {
                sendByLastSealKey(t);
                t.link(many);
                t.turn(1);
                t.due("take() of this one", Cases.pass(t), 0);
            });
        }
        int[] seen = {16, 17, 47};
        for (int many : seen) {
            CASES.at(promise, words + ": it has seen " + many, t -> {
                t.send(0);
                sendByLastSealKey(t);
                t.link(many);
                t.due("take()", t.take(), PacketGuard.NONE);
                t.turn(1);
                t.link(48 - many);
                t.due("take() by the keys before", t.take(), 0);
                t.due("take() of the one behind it", Cases.pass(t), 0);
                t.send(0);
                t.due("take() of the third", Cases.pass(t), 0);
            });
        }
        CASES.at(promise, words + ": as they are now, and not when it is their turn", t -> {
            t.send(0);
            sendByLastSealKey(t);
            t.link(16);
            t.take();
            t.turn(1);
            t.key(15, 9);
            t.link(32);
            t.due("take() by the keys before", t.take(), 0);
            t.due("take() of the one behind it", Cases.pass(t), 0);
        });
        CASES.at(promise, words + ": of a packet that is opened it has seen all", t -> {
            t.send(0);
            sendByLastSealKey(t);
            t.link(96);
            t.due("take() of the first", t.take(), 0);
            t.turn(1);
            t.due("take() of the one behind it", t.take(), 0);
        });
        CASES.at(promise, words + ": the receiver's alone wait", t -> {
            t.send(0);
            t.key(0, MIN);
            t.link(16);
            t.take();
            t.turn(0);
            t.send(0);
            Cases.dueBlock(t, 32, Cases.EMPTY_PACKET, "0edd33d3c621e546455bd8ba1418bec8");
        });
    }

    /** Leaves the next keys as the sender has them. */
    private static void sendByLastSealKey(Twin t) {
        t.key(15, 1);
        t.turn(0);
        t.due("send", t.send(0), 48);
    }

    private static void put(String promise) {
        int[][] bytes = {{}, {0x7f}, {0x80, 0x7f}, {0, 0x80, 0x7f}, {0xff, 0, 0x80, 0x7f}};
        for (int n = 1; n <= 4; n++) {
            int many = n;
            CASES.at(promise, "n bytes of v, the highest of its lowest n first: " + n, t -> {
                t.due("how many it has", t.put(0xff00807f, many), many);
                t.due("how many it has", t.put(0xff00807f, many), 2 * many);
                t.send(0);
                t.due("take()", Cases.pass(t), 2 * many);
                for (int i = 0; i < 2 * many; i++) {
                    t.due("got(" + i + ")", t.got(i), bytes[many][i % many]);
                }
            });
        }
        int[] wrong = {0, 5, -1, 257, -255, MIN, MAX};
        for (int n : wrong) {
            CASES.at(promise, "IllegalArgumentException when n is not 1 .. 4: " + n, t -> {
                t.due("put(1, 1)", t.put(1, 1), 1);
                t.due("put", t.put(2, n), Twin.ARGUMENT);
                t.due("put(3, 4)", t.put(3, 4), 5);
                t.send(0);
                t.due("take()", Cases.pass(t), 5);
                t.due("got(0)", t.got(0), 1);
                t.due("got(4)", t.got(4), 3);
            });
            CASES.at(promise, "asked first: before the 500, n is " + n, t -> {
                t.fill(500);
                t.due("put", t.put(2, n), Twin.ARGUMENT);
                t.due("put(2, 1)", t.put(2, 1), Twin.STATE);
            });
        }
    }

    private static void putTooMuch(String promise) {
        for (int n = 1; n <= 4; n++) {
            int many = n;
            CASES.at(promise, "IllegalStateException when it would be more than 500: the last "
                    + n, t -> {
                t.fill(500 - many);
                t.due("put", t.put(0x61626364, many), 500);
                t.due("send", t.send(0), 544);
                t.due("take()", Cases.pass(t), 500);
                t.due("got(499)", t.got(499), 0x64);
            });
            CASES.at(promise, "IllegalStateException when it would be more than 500: 501 by "
                    + n, t -> {
                t.fill(501 - many);
                t.due("put", t.put(-1, many), Twin.STATE);
                // What still has room comes behind, and nothing of the refused word is there.
                if (many > 1) {
                    t.due("put", t.put(0x616263, many - 1), 500);
                }
                t.due("send", t.send(0), 544);
                t.due("take()", Cases.pass(t), 500);
                t.due("got(499)", t.got(499), many > 1 ? 0x63 : LAST_OF_500);
            });
        }
        CASES.at(promise, "more than 500: counted anew behind send", t -> {
            t.fill(500);
            t.send(0);
            t.fill(500);
            t.due("put(1, 1)", t.put(1, 1), Twin.STATE);
            t.due("send", t.send(0), 544);
        });
    }

    private static void send(String promise) {
        int[] pads = {0, 1, 36, 219, 255, 256, -1, -37, MAX, MIN};
        for (int pad : pads) {
            CASES.at(promise, "pad, pad + 37, pad + 74, .. (lowest bytes): " + pad, t -> {
                t.put(0, 4);
                t.put(0, 4);
                t.due("send", t.send(pad), 64);
                for (int i = 0; i < 19; i++) {
                    t.due("padding " + i, Cases.plain(t, 13 + i), (pad + 37L * i) & 255);
                }
            });
        }
        CASES.at(promise, "The payload is sent: an empty one", t -> {
            t.due("send", t.send(0), 48);
            t.due("take()", Cases.pass(t), 0);
        });
        CASES.at(promise, "and is empty then", t -> {
            t.fill(9);
            t.send(0);
            t.due("put(1, 1)", t.put(1, 1), 1);
            t.send(0);
            t.due("send of an empty one", t.send(0), 48);
            t.link(MAX);
            t.due("take()", t.take(), 9);
            t.due("take()", t.take(), 1);
            t.due("take()", t.take(), 0);
        });
        // The last payload of a number of blocks, and the first of the next.
        int[][] sizes = {{0, 48}, {7, 48}, {8, 64}, {23, 64}, {24, 80}, {487, 528}, {488, 544},
            {500, 544}};
        for (int[] size : sizes) {
            CASES.at(promise, "how many bytes the packet has, with its seal: of " + size[0], t -> {
                t.fill(size[0]);
                t.due("send", t.send(0), size[1]);
                t.due("onTheWay()", t.onTheWay(), size[1]);
                t.due("take()", Cases.pass(t), size[0]);
            });
        }
    }

    private static void sendTooMuch(String promise) {
        String words = "IllegalStateException when more than 6000 bytes would be on the way";
        CASES.at(promise, words + ": 6000 by 125 packets", t -> {
            Cases.sendEmpty(t, 125);
            t.due("onTheWay()", t.onTheWay(), 6000);
            t.due("send", t.send(0), Twin.STATE);
            t.due("onTheWay()", t.onTheWay(), 6000);
        });
        CASES.at(promise, words + ": 6001, then 6000, of 48 bytes", t -> {
            Cases.sendEmpty(t, 125);
            t.link(47);
            t.due("send to 6001", t.send(0), Twin.STATE);
            t.due("number(0)", t.number(0), 125);
            t.link(1);
            t.due("send to 6000", t.send(0), 48);
            t.due("onTheWay()", t.onTheWay(), 6000);
            t.due("number(0)", t.number(0), 126);
            t.glance();
        });
        CASES.at(promise, words + ": 6001, then 6000, of 544 bytes", t -> {
            Cases.sendEmpty(t, 125);
            t.fill(500);
            t.link(543);
            t.due("send to 6001", t.send(0), Twin.STATE);
            t.due("the payload is there still", t.put(1, 1), Twin.STATE);
            t.link(1);
            t.due("send to 6000", t.send(0), 544);
            t.due("onTheWay()", t.onTheWay(), 6000);
            t.due("the payload is empty then", t.put(1, 1), 1);
        });
        CASES.at(promise, words + ": the counter and the payload stay where they are", t -> {
            Cases.sendEmpty(t, 125);
            t.put(0x0102, 2);
            t.due("send", t.send(0), Twin.STATE);
            t.due("send", t.send(1), Twin.STATE);
            t.link(48);
            t.due("send", t.send(0), 48);
            t.glance();
            for (int i = 0; i < 125; i++) {
                t.due("take()", t.take(), 0);
                t.link(48);
            }
            t.due("take() of the one refused at first", t.take(), 2);
        });
    }

    private static void forge(String promise) {
        int[][] sizes = {{0, 12, 11}, {7, 12, 4}, {8, 28, 19}, {500, 508, 7}};
        for (int[] size : sizes) {
            CASES.at(promise, "The payload is sent as send(0) does: of " + size[0], t -> {
                Twin sent = CASES.another("send(0) beside forge");
                sent.fill(size[0]);
                t.fill(size[0]);
                t.due("forge", t.forge(size[1], size[2]), sent.send(0));
                int all = (int) t.onTheWay();
                for (int i = 0; i < all; i += i < 40 || i > all - 50 ? 1 : 3) {
                    t.due("octet(" + i + ")", t.octet(i), sent.octet(i));
                }
                t.due("number(0)", t.number(0), 1);
                t.due("the payload is empty then", t.put(1, 1), 1);
            });
        }
        int[] lengths = {0, 1, 11, 12, 13, 255, 256, 540, 541, 0x01020304, -1, -4, MIN, MAX};
        for (int length : lengths) {
            CASES.at(promise, "length as it is: " + length, t -> {
                t.due("forge", t.forge(length, 11), 48);
                for (int i = 0; i < 4; i++) {
                    t.due("byte " + i, Cases.plain(t, i), length >>> (24 - 8 * i) & 255);
                }
                t.due("the byte behind it", Cases.plain(t, 4), 11);
                t.due("the first of the padding", Cases.plain(t, 5), 0);
                t.due("the last of the padding", Cases.plain(t, 15), 0x72);
            });
        }
        int[] paddings = {0, 3, 4, 11, 12, 255, 256, 257, 0x1ff, -1, -256, MIN, MAX};
        for (int padding : paddings) {
            CASES.at(promise, "padding's lowest byte: " + padding, t -> {
                t.due("forge", t.forge(12, padding), 48);
                t.due("byte 3", Cases.plain(t, 3), 12);
                t.due("byte 4", Cases.plain(t, 4), padding & 255);
                t.due("the first of the padding", Cases.plain(t, 5), 0);
            });
        }
        CASES.at(promise, "the seal is of that: the byte told", t -> {
            t.forge(12, 3);
            t.due("fault 4 and not 3", Cases.pass(t), -4);
        });
        CASES.at(promise, "the seal is of that: the length told", t -> {
            // Two blocks that tell of one: the seal that is looked at is the second block's.
            t.put(0, 4);
            t.put(0, 4);
            t.forge(12, 4);
            Cases.dueOctets(t, 32, hex(Model.packetOfZeroKeys(forgedBlocks()), 32, 64));
            t.due("fault 3", Cases.pass(t), -3);
        });
    }

    /** Eight zeros of payload behind a length of 12 and a padding of 4, padded to two blocks. */
    private static byte[] forgedBlocks() {
        byte[] plain = new byte[32];
        plain[3] = 12;
        plain[4] = 4;
        for (int i = 0; i < 19; i++) {
            plain[13 + i] = (byte) (37 * i);
        }
        return plain;
    }

    private static String hex(byte[] bytes, int from, int end) {
        return HexFormat.of().formatHex(bytes, from, end);
    }

    private static void forgeTooMuch(String promise) {
        String words = "as send(0) does: IllegalStateException for more than 6000";
        CASES.at(promise, words + ", then 6000", t -> {
            Cases.sendEmpty(t, 125);
            t.put(0x61, 1);
            t.due("forge to 6048", t.forge(12, 4), Twin.STATE);
            t.link(47);
            t.due("forge to 6001", t.forge(12, 4), Twin.STATE);
            t.due("number(0)", t.number(0), 125);
            t.due("onTheWay()", t.onTheWay(), 5953);
            t.link(1);
            t.due("forge to 6000", t.forge(12, 10), 48);
            t.due("onTheWay()", t.onTheWay(), 6000);
            t.due("number(0)", t.number(0), 126);
            for (int i = 0; i < 125; i++) {
                t.due("take()", t.take(), 0);
                t.link(48);
            }
            t.due("take() of the one refused at first", t.take(), 1);
            t.due("got(0)", t.got(0), 0x61);
        });
        CASES.at(promise, words + ": what the length tells is not counted", t -> {
            Cases.sendEmpty(t, 124);
            t.due("forge to 6000", t.forge(MAX, 4), 48);
            t.due("onTheWay()", t.onTheWay(), 6000);
        });
    }
}
