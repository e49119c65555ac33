import java.util.Arrays;

/** Each promise of the document: ordinary inputs, the edges that it names, wrong inputs. */
public final class PromisesTest {
    private static final Check CHECK = new Check();
    private static final int[] NO_INDEX = {-1, Integer.MIN_VALUE, Integer.MAX_VALUE};

    public static void main(String[] args) {
        newObject();
        blocks();
        key();
        turn();
        turnOfReceiver();
        put();
        send();
        sendTooMuch();
        forge();
        onTheWayAndOctet();
        alter();
        link();
        take();
        faults();
        longestPayload();
        got();
        number();
        begin();
        counterWraps();
        CHECK.end("PromisesTest");
    }

    private static void newObject() {
        Twin t = new Twin(CHECK, "new object");
        due("NONE", PacketGuard.NONE, -1);
        due("new: onTheWay", t.onTheWay(), 0);
        due("new: octet(0)", t.octet(0), Twin.INDEX);
        due("new: alter(0, 1)", t.alter(0, 1), Twin.INDEX);
        due("new: got(0)", t.got(0), Twin.INDEX);
        due("new: take", t.take(), -1);
        due("new: number(0)", t.number(0), 0);
        due("new: number(1)", t.number(1), 0);
        due("new: link(5)", t.link(5), 0);
        due("new: send(0)", t.send(0), 48);
        // Sixteen zeros enciphered under a key of zeros, less the packet 0 0 0 12 11 0 37 74 ..
        dueBlock(t, "66e94bd4ef8a2c3b884cfa59ca342b2e", "0000000c0b00254a6f94b9de03284d72");
        t.look();
        t.link(48);
        due("new: take of an empty payload", t.take(), 0);
    }

    /** The example of the cipher's own standard, its text being the counter. */
    private static void blocks() {
        Twin t = new Twin(CHECK, "blocks");
        int[] words = {0x00010203, 0x04050607, 0x08090a0b, 0x0c0d0e0f,
            0x00112233, 0x44556677, 0x8899aabb, 0xccddeeff};
        for (int i = 0; i < 8; i++) {
            t.key(i, words[i]);
        }
        t.turn(0);
        t.send(1);
        dueBlock(t, "69c4e0d86a7b0430d8cdb78070b4c55a", "0000000c0b01264b7095badf04294e73");
    }

    private static void dueBlock(Twin t, String enciphered, String plain) {
        for (int i = 0; i < 16; i++) {
            int a = Integer.parseInt(enciphered.substring(2 * i, 2 * i + 2), 16);
            int b = Integer.parseInt(plain.substring(2 * i, 2 * i + 2), 16);
            due("block's octet(" + i + ")", t.octet(i), a ^ b);
        }
    }

    private static void key() {
        for (int i = 0; i < 16; i++) {
            Twin t = new Twin(CHECK, "key " + i);
            due("key", t.key(i, -7 - i), 0);
            // Word i of the next keys alone: the sides have theirs still.
            t.send(0);
            due("no turn: octet(0)", t.octet(0), 0x66);
            t.link(48);
            due("no turn: take", t.take(), 0);
            t.turn(0);
            t.fill(20);
            t.send(3);
            t.look();
            t.turn(1);
            t.link(100);
            due("turned: take", t.take(), 20);
            t.look();
        }
        Twin t = new Twin(CHECK, "key, wrong");
        t.keys(9);
        due("key(16, 1)", t.key(16, 1), Twin.INDEX);
        for (int i : NO_INDEX) {
            due("key(" + i + ", 1)", t.key(i, 1), Twin.INDEX);
        }
        t.key(3, 1);
        t.key(3, Integer.MIN_VALUE);
        t.turn(0);
        t.send(0);
        t.look();
    }

    private static void turn() {
        Twin t = new Twin(CHECK, "turn");
        t.keys(77);
        due("turn(2)", t.turn(2), Twin.INDEX);
        for (int side : NO_INDEX) {
            due("turn(" + side + ")", t.turn(side), Twin.INDEX);
        }
        t.send(0);
        due("keys of zeros: octet(0)", t.octet(0), 0x66);
        t.turn(0);
        // As they are at the turn: a later key is for a later turn.
        t.key(0, 1);
        t.key(8, 1);
        t.fill(40);
        t.send(0);
        t.look();
        // The same keys again bring the counter back, but not the number.
        t.keys(77);
        t.turn(0);
        t.fill(40);
        t.send(0);
        t.look();
        due("turned twice: the same length", t.octet(48), t.octet(48 + 96));
        due("turned: number(0)", t.number(0), 3);
        t.link(48);
        due("first packet", t.take(), 0);
        t.turn(1);
        t.link(96);
        due("second packet", t.take(), 40);
        t.turn(1);
        t.link(96);
        due("third packet", t.take(), 40);
        t.look();
    }

    private static void turnOfReceiver() {
        // Fifteen bytes seen, or sixteen that take has not seen: the turn is for this packet.
        int[] linked = {0, 15, 16, 48};
        for (int many : linked) {
            Twin t = new Twin(CHECK, "turn of the receiver behind " + many);
            t.keys(-3);
            t.turn(0);
            t.send(0);
            t.link(many);
            if (many < 16) {
                due("take", t.take(), -1);
            }
            t.turn(1);
            t.link(48);
            due("take of the next packet", t.take(), 0);
        }
        Twin t = new Twin(CHECK, "turn of the receiver within a packet");
        t.fill(30);
        t.send(0);
        t.keys(5);
        t.turn(0);
        t.fill(3);
        t.send(0);
        t.link(16);
        due("take sees sixteen", t.take(), -1);
        t.keys(6);
        t.turn(1);
        t.keys(5);
        t.turn(1);
        t.keys(7);
        t.link(63);
        due("take, one byte missing", t.take(), -1);
        t.link(1);
        due("take by the keys before", t.take(), 30);
        t.link(48);
        due("take by the later turn's keys", t.take(), 3);
        t.send(0);
        t.link(48);
        due("the keys go on", t.take(), 0);
        // take opened a packet, and bytes of another were there: it has not seen those.
        t.send(0);
        t.turn(0);
        t.send(0);
        t.link(96);
        due("take of one of two", t.take(), 0);
        t.turn(1);
        due("take of the other", t.take(), 0);
        t.look();
    }

    private static void put() {
        Twin t = new Twin(CHECK, "put");
        due("put(0x01020384, 1)", t.put(0x01020384, 1), 1);
        due("put(0x01020384, 2)", t.put(0x01020384, 2), 3);
        due("put(0x01020384, 3)", t.put(0x01020384, 3), 6);
        due("put(0xf1020384, 4)", t.put(0xf1020384, 4), 10);
        int[] wrong = {0, 5, -1, Integer.MIN_VALUE, Integer.MAX_VALUE};
        for (int n : wrong) {
            due("put(1, " + n + ")", t.put(1, n), Twin.ARGUMENT);
        }
        t.send(0);
        t.link(100);
        due("put: take", t.take(), 10);
        int[] bytes = {0x84, 3, 0x84, 2, 3, 0x84, 0xf1, 2, 3, 0x84};
        for (int i = 0; i < bytes.length; i++) {
            due("put: got(" + i + ")", t.got(i), bytes[i]);
        }
        t.fill(497);
        due("497 and 4", t.put(-1, 4), Twin.STATE);
        due("497 and 2", t.put(-1, 2), 499);
        due("499 and 2", t.put(-1, 2), Twin.STATE);
        due("499 and 1", t.put(-2, 1), 500);
        due("500 and 1", t.put(-1, 1), Twin.STATE);
        due("500 and 0, asked first", t.put(-1, 0), Twin.ARGUMENT);
        due("500 and 5, asked first", t.put(-1, 5), Twin.ARGUMENT);
        due("send of 500", t.send(0), 544);
        t.link(544);
        due("take of 500", t.take(), 500);
        t.look();
        due("empty again", t.put(1, 1), 1);
    }

    private static void send() {
        int[] pads = {0, 1, 200, 255, 256, -1, Integer.MAX_VALUE, Integer.MIN_VALUE};
        for (int bytes = 0; bytes <= 500; bytes += bytes < 40 ? 1 : 46) {
            Twin t = new Twin(CHECK, "send of " + bytes);
            t.keys(bytes);
            t.turn(0);
            t.turn(1);
            t.fill(bytes);
            long all = t.send(pads[bytes % pads.length]);
            due("bytes", all, (5 + bytes + 4 + 15) / 16 * 16 + 32);
            due("on the way", t.onTheWay(), all);
            t.look();
            t.send(bytes);
            due("the payload is empty then", t.onTheWay(), all + 48);
            t.link(600);
            due("take", t.take(), bytes);
            due("take of the empty one", t.take(), 0);
            t.look();
        }
    }

    private static void sendTooMuch() {
        Twin t = new Twin(CHECK, "send too much");
        for (int i = 0; i < 124; i++) {
            due("send", t.send(i), 48);
        }
        t.fill(8);
        due("6016 on the way, send", t.send(0), Twin.STATE);
        due("6016 on the way, forge", t.forge(12, 4), Twin.STATE);
        due("nothing was counted", t.number(0), 124);
        t.link(15);
        due("6001 on the way, send", t.send(0), Twin.STATE);
        due("6001 on the way, forge", t.forge(12, 4), Twin.STATE);
        t.link(1);
        due("6000 on the way", t.send(0), 64);
        due("6048 on the way, send", t.send(0), Twin.STATE);
        due("on the way", t.onTheWay(), 6000);
        t.look();
    }

    private static void forge() {
        Twin t = new Twin(CHECK, "forge");
        t.fill(5);
        due("forge(12, 4)", t.forge(12, 4), 48);
        t.look();
        due("forge: number(0)", t.number(0), 1);
        t.link(48);
        due("a shorter padding", t.take(), 7);
        due("the first byte of the padding", t.got(5), 0);
        due("the second byte of the padding", t.got(6), 37);
        t.fill(3);
        due("lowest byte of the padding", t.forge(12, 0xabcdef0b), 48);
        t.link(48);
        due("all is padding", t.take(), 0);
        t.look();
        due("the payload is empty then", t.put(1, 1), 1);
        // As it is: a packet of one block that tells of two waits for more.
        due("forge(28, 4)", t.forge(28, 4), 48);
        t.link(48);
        due("told more than there is", t.take(), -1);
        due("forge(MIN, MIN)", t.forge(Integer.MIN_VALUE, Integer.MIN_VALUE), 48);
        due("forge(MAX, MAX)", t.forge(Integer.MAX_VALUE, Integer.MAX_VALUE), 48);
        t.look();
        t.link(16);
        due("the seal is another packet's part", t.take(), -3);
    }

    private static void onTheWayAndOctet() {
        Twin t = new Twin(CHECK, "onTheWay and octet");
        t.fill(100);
        t.send(9);
        due("on the way", t.onTheWay(), 144);
        due("octet(144)", t.octet(144), Twin.INDEX);
        for (int i : NO_INDEX) {
            due("octet(" + i + ")", t.octet(i), Twin.INDEX);
        }
        long second = t.octet(1);
        long last = t.octet(143);
        t.link(1);
        due("on the way", t.onTheWay(), 143);
        due("the first is the second now", t.octet(0), second);
        due("octet(142)", t.octet(142), last);
        due("octet(143)", t.octet(143), Twin.INDEX);
        t.link(142);
        due("the last is the first now", t.octet(0), last);
        t.link(1);
        due("on the way", t.onTheWay(), 0);
        due("octet(0)", t.octet(0), Twin.INDEX);
    }

    private static void alter() {
        Twin t = new Twin(CHECK, "alter");
        t.send(0);
        long first = t.octet(0);
        long last = t.octet(47);
        t.alter(0, 0x1234);
        due("lowest byte of the mask", t.octet(0), first ^ 0x34);
        t.alter(47, -1);
        due("all bits", t.octet(47), last ^ 255);
        t.alter(47, 0xff00);
        due("no bit", t.octet(47), last ^ 255);
        due("alter(48, 1)", t.alter(48, 1), Twin.INDEX);
        for (int i : NO_INDEX) {
            due("alter(" + i + ", 1)", t.alter(i, 1), Twin.INDEX);
        }
        t.look();
        t.alter(0, 0x34);
        t.alter(47, 255);
        t.link(48);
        due("altered back: take", t.take(), 0);
    }

    private static void link() {
        Twin t = new Twin(CHECK, "link");
        for (int i = 0; i < 42; i++) {
            t.send(0);
        }
        due("link(-1)", t.link(-1), Twin.ARGUMENT);
        due("link(MIN)", t.link(Integer.MIN_VALUE), Twin.ARGUMENT);
        due("link(2001)", t.link(2001), Twin.STATE);
        due("link(MAX)", t.link(Integer.MAX_VALUE), Twin.STATE);
        due("nothing moved", t.onTheWay(), 2016);
        due("link(0)", t.link(0), 0);
        due("link(2000)", t.link(2000), 2000);
        due("link(1), none free", t.link(1), Twin.STATE);
        due("link(0), none free", t.link(0), 0);
        due("link(-1), none free", t.link(-1), Twin.ARGUMENT);
        due("on the way", t.onTheWay(), 16);
        due("take", t.take(), 0);
        due("all, if there are less", t.link(Integer.MAX_VALUE), 16);
        due("none", t.link(7), 0);
        for (int i = 1; i < 42; i++) {
            due("take", t.take(), 0);
        }
        due("take of no more", t.take(), -1);
        // What a dead receiver has stays unopened.
        t.forge(0, 0);
        t.link(48);
        due("take of a fault", t.take(), -2);
        for (int i = 0; i < 41; i++) {
            t.send(0);
        }
        due("link(1953), dead", t.link(1953), Twin.STATE);
        due("link(1952), dead", t.link(1952), 1952);
        due("take of a fault", t.take(), -2);
    }

    private static void take() {
        // Cut anywhere: the packet is opened with its last byte and not before.
        for (int cut = 0; cut < 80; cut++) {
            Twin t = new Twin(CHECK, "take, cut at " + cut);
            t.fill(30);
            t.send(0);
            t.fill(31);
            t.send(0);
            t.link(cut);
            due("take of a part", t.take(), -1);
            due("take of a part, again", t.take(), -1);
            due("number(1)", t.number(1), 0);
            t.link(80 - cut);
            due("take of all", t.take(), 30);
            due("number(1)", t.number(1), 1);
            due("take of nothing", t.take(), -1);
            t.link(80);
            due("take of the next", t.take(), 31);
            t.look();
        }
    }

    private static void faults() {
        int[] badLengths = {-4, 0, 11, 13, 20, 27, 29, 556, 541, -2147483636, Integer.MAX_VALUE};
        for (int length : badLengths) {
            dueFault(length, 4, 15, -1);
            dueFault(length, 4, 16, -2);
        }
        int[] goodLengths = {12, 28, 44, 524, 540};
        for (int length : goodLengths) {
            dueFault(length, 4, 16, -1);
        }
        int[] badPaddings = {0, 3, 12, 13, 255};
        for (int padding : badPaddings) {
            dueFault(12, padding, 47, -1);
            dueFault(12, padding, 48, -4);
        }
        dueFault(12, 4, 48, 7);
        dueFault(12, 11, 48, 0);
        // An altered byte: in the length, another length; elsewhere, another seal.
        for (int i = 0; i < 64; i++) {
            if (i != 3) {
                dueAltered(i, 128, i < 3 ? -2 : -3);
            }
        }
        dueAltered(3, 1, -2);
        // 28 becomes 12, a good length, but the seal is not there; or 284, and more must come.
        dueAltered(3, 16, -3);
        Twin t = new Twin(CHECK, "altered to 284");
        t.fill(10);
        t.send(0);
        t.alter(2, 1);
        t.link(64);
        due("take of an altered length", t.take(), -1);
        // A fault 3 goes before a fault 4.
        t = new Twin(CHECK, "both faults");
        t.forge(12, 0);
        t.alter(40, 8);
        t.link(48);
        dueDead(t, -3);
        // The seal is of the number too: the second packet is none in the first one's place.
        t = new Twin(CHECK, "another number");
        t.send(0);
        t.turn(0);
        t.send(0);
        for (int i = 0; i < 48; i++) {
            t.alter(i, (int) (t.octet(i) ^ t.octet(48 + i)));
        }
        t.link(48);
        dueDead(t, -3);
    }

    private static void dueAltered(int i, int mask, long due) {
        Twin t = new Twin(CHECK, "altered at " + i + " by " + mask);
        t.fill(10);
        t.send(0);
        t.alter(i, mask);
        t.link(64);
        dueDead(t, due);
    }

    private static void dueFault(int length, int padding, int linked, int due) {
        Twin t = new Twin(CHECK, "forged " + length + ", " + padding);
        t.fill(4);
        t.forge(length, padding);
        t.link(linked);
        if (due < -1) {
            dueDead(t, due);
        } else {
            due("take", t.take(), due);
            t.look();
        }
    }

    /** A fault again and again, whatever comes, until all begins anew. */
    private static void dueDead(Twin t, long due) {
        due("take", t.take(), due);
        due("take again", t.take(), due);
        due("not counted", t.number(1), 0);
        due("nothing was opened", t.got(0), Twin.INDEX);
        t.turn(1);
        t.send(0);
        t.link(1000);
        due("take with more", t.take(), due);
        t.look();
        t.begin();
        due("take anew", t.take(), -1);
        t.send(0);
        t.link(48);
        due("take of a packet anew", t.take(), 0);
    }

    /**
     * The longest packet that is let through holds more than put allows: a forged one takes in
     * bytes behind it on the way, which are altered into the seal that is due.
     */
    private static void longestPayload() {
        byte[] plain = Arrays.copyOf(new byte[] {0, 0, 2, 28, 4}, 544);
        Twin t = new Twin(CHECK, "longest payload");
        for (int i = 0; i < 125; i++) {
            t.put(i, 4);
            plain[5 + 4 * i + 3] = (byte) i;
        }
        for (int i = 0; i < 7; i++) {
            plain[505 + i] = (byte) (37 * i);
        }
        for (int i = 512; i < 544; i++) {
            plain[i] = (byte) (3 * i);
        }
        t.forge(540, 4);
        t.send(0);
        byte[] want = Model.packetOfZeroKeys(plain);
        for (int i = 512; i < 576; i++) {
            t.alter(i, (int) t.octet(i) ^ want[i]);
        }
        t.link(575);
        due("take of 575 bytes", t.take(), -1);
        t.link(1);
        due("take of 576 bytes", t.take(), 535);
        for (int i = 0; i < 535; i += i < 490 ? 5 : 1) {
            due("got(" + i + ")", t.got(i), plain[5 + i] & 255);
        }
        due("got(535)", t.got(535), Twin.INDEX);
    }

    private static void got() {
        Twin t = new Twin(CHECK, "got");
        t.fill(9);
        t.send(0);
        t.put(0x41424344, 4);
        t.send(0);
        t.link(112);
        due("got(0), nothing opened", t.got(0), Twin.INDEX);
        due("take", t.take(), 9);
        due("got(8)", t.got(8), 0x85ebca6b * 9 & 255);
        due("got(9)", t.got(9), Twin.INDEX);
        for (int i : NO_INDEX) {
            due("got(" + i + ")", t.got(i), Twin.INDEX);
        }
        due("take", t.take(), 4);
        due("got(0) of the latest", t.got(0), 0x41);
        due("got(3) of the latest", t.got(3), 0x44);
        due("got(4) of the latest", t.got(4), Twin.INDEX);
        due("take", t.take(), -1);
        due("got(0) still", t.got(0), 0x41);
        t.forge(12, 0);
        t.link(48);
        due("take", t.take(), -4);
        due("got(0) still, dead", t.got(0), 0x41);
        due("got(3) still, dead", t.got(3), 0x44);
        due("got(4) still, dead", t.got(4), Twin.INDEX);
        t.begin();
        t.send(0);
        t.link(48);
        due("take of an empty one", t.take(), 0);
        due("got(0) of an empty one", t.got(0), Twin.INDEX);
    }

    private static void number() {
        Twin t = new Twin(CHECK, "number");
        due("number(2)", t.number(2), Twin.INDEX);
        for (int side : NO_INDEX) {
            due("number(" + side + ")", t.number(side), Twin.INDEX);
        }
        for (int i = 0; i < 5; i++) {
            due("number(0)", t.number(0), i);
            due("number(1)", t.number(1), i);
            if (i == 2) {
                t.keys(1);
                t.turn(0);
                t.turn(1);
            }
            if (i == 3) {
                t.forge(12, 5);
            } else {
                t.send(0);
            }
            due("number(0) of a sent one", t.number(0), i + 1);
            t.link(48);
            due("number(1) of one that came", t.number(1), i);
            due("take", t.take(), i == 3 ? 6 : 0);
        }
    }

    private static void begin() {
        Twin t = new Twin(CHECK, "begin");
        t.keys(3);
        t.turn(0);
        t.turn(1);
        t.fill(20);
        t.send(0);
        t.send(0);
        t.link(64);
        due("take", t.take(), 20);
        t.link(20);
        due("take sees sixteen", t.take(), -1);
        t.turn(1);
        t.put(1, 3);
        t.begin();
        due("begun: onTheWay", t.onTheWay(), 0);
        due("begun: octet(0)", t.octet(0), Twin.INDEX);
        due("begun: got(0)", t.got(0), Twin.INDEX);
        due("begun: number(0)", t.number(0), 0);
        due("begun: number(1)", t.number(1), 0);
        due("begun: take", t.take(), -1);
        due("begun: no payload", t.put(1, 1), 1);
        due("begun: send", t.send(0), 48);
        due("begun: keys of zeros", t.octet(0), 0x66);
        due("begun: nothing came", t.link(16), 16);
        t.look();
        t.link(100);
        due("begun: take", t.take(), 1);
        // No keys wait for the receiver's next packet.
        t.send(0);
        t.link(48);
        due("begun: take of the next", t.take(), 0);
        // The next keys are of zeros too.
        t.turn(0);
        t.send(0);
        due("begun: next keys of zeros", t.octet(0), 0x66);
        t.turn(1);
        t.link(48);
        due("begun: take, turned", t.take(), 0);
    }

    private static void counterWraps() {
        for (int words = 1; words <= 4; words++) {
            Twin t = new Twin(CHECK, "counter of " + words);
            t.keys(12);
            for (int i = 0; i < words; i++) {
                t.key(7 - i, -1);
            }
            t.turn(0);
            t.turn(1);
            for (int i = 0; i < 3; i++) {
                t.fill(40);
                t.send(i);
            }
            t.look();
            t.link(300);
            for (int i = 0; i < 3; i++) {
                due("take", t.take(), 40);
                t.look();
            }
        }
    }

    private static void due(String what, long got, long want) {
        CHECK.due(what, got, want);
    }
}
