/**
 * One direction of a guarded connection: a sender that makes packets of payloads, the bytes on the
 * way, and a receiver that opens the packets again or names the first fault.
 */
public final class PacketGuard {
    public static final int NONE = -1;

    private static final int SENDER = 0;
    private static final int RECEIVER = 1;

    private static final int BLOCK_BYTES = 16;
    private static final int LENGTH_BYTES = 4;
    /** The length and the byte that tells the padding. */
    private static final int HEAD_BYTES = 5;
    private static final int SEAL_BYTES = 32;
    private static final int LEAST_PADDING = 4;
    private static final int PADDING_STEP = 37;
    private static final int LEAST_LENGTH = 12;
    private static final int MOST_LENGTH = 540;

    private static final int MOST_PAYLOAD = 500;
    private static final int MOST_ON_THE_WAY = 6000;
    private static final int MOST_UNOPENED = 2000;

    private static final int NO_FAULT = 0;
    private static final int BAD_LENGTH = 2;
    private static final int BAD_SEAL = 3;
    private static final int BAD_PADDING = 4;

    /** No packet that is let through has this length. */
    private static final int UNKNOWN = 0;

    private static final int[] S = {
        99, 124, 119, 123, 242, 107, 111, 197, 48, 1, 103, 43, 254, 215, 171, 118,
        202, 130, 201, 125, 250, 89, 71, 240, 173, 212, 162, 175, 156, 164, 114, 192,
        183, 253, 147, 38, 54, 63, 247, 204, 52, 165, 229, 241, 113, 216, 49, 21,
        4, 199, 35, 195, 24, 150, 5, 154, 7, 18, 128, 226, 235, 39, 178, 117,
        9, 131, 44, 26, 27, 110, 90, 160, 82, 59, 214, 179, 41, 227, 47, 132,
        83, 209, 0, 237, 32, 252, 177, 91, 106, 203, 190, 57, 74, 76, 88, 207,
        208, 239, 170, 251, 67, 77, 51, 133, 69, 249, 2, 127, 80, 60, 159, 168,
        81, 163, 64, 143, 146, 157, 56, 245, 188, 182, 218, 33, 16, 255, 243, 210,
        205, 12, 19, 236, 95, 151, 68, 23, 196, 167, 126, 61, 100, 93, 25, 115,
        96, 129, 79, 220, 34, 42, 144, 136, 70, 238, 184, 20, 222, 94, 11, 219,
        224, 50, 58, 10, 73, 6, 36, 92, 194, 211, 172, 98, 145, 149, 228, 121,
        231, 200, 55, 109, 141, 213, 78, 169, 108, 86, 244, 234, 101, 122, 174, 8,
        186, 120, 37, 46, 28, 166, 180, 198, 232, 221, 116, 31, 75, 189, 139, 138,
        112, 62, 181, 102, 72, 3, 246, 14, 97, 53, 87, 185, 134, 193, 29, 158,
        225, 248, 152, 17, 105, 217, 142, 148, 155, 30, 135, 233, 206, 85, 40, 223,
        140, 161, 137, 13, 191, 230, 66, 104, 65, 153, 45, 15, 176, 84, 187, 22
    };

    private static final int[] DIGEST_START = {
        0x6a09e667, 0xbb67ae85, 0x3c6ef372, 0xa54ff53a,
        0x510e527f, 0x9b05688c, 0x1f83d9ab, 0x5be0cd19
    };

    private static final int[] DIGEST_ROUND = {
        0x428a2f98, 0x71374491, 0xb5c0fbcf, 0xe9b5dba5,
        0x3956c25b, 0x59f111f1, 0x923f82a4, 0xab1c5ed5,
        0xd807aa98, 0x12835b01, 0x243185be, 0x550c7dc3,
        0x72be5d74, 0x80deb1fe, 0x9bdc06a7, 0xc19bf174,
        0xe49b69c1, 0xefbe4786, 0x0fc19dc6, 0x240ca1cc,
        0x2de92c6f, 0x4a7484aa, 0x5cb0a9dc, 0x76f988da,
        0x983e5152, 0xa831c66d, 0xb00327c8, 0xbf597fc7,
        0xc6e00bf3, 0xd5a79147, 0x06ca6351, 0x14292967,
        0x27b70a85, 0x2e1b2138, 0x4d2c6dfc, 0x53380d13,
        0x650a7354, 0x766a0abb, 0x81c2c92e, 0x92722c85,
        0xa2bfe8a1, 0xa81a664b, 0xc24b8b70, 0xc76c51a3,
        0xd192e819, 0xd6990624, 0xf40e3585, 0x106aa070,
        0x19a4c116, 0x1e376c08, 0x2748774c, 0x34b0bcb5,
        0x391c0cb3, 0x4ed8aa4a, 0x5b9cca4f, 0x682e6ff3,
        0x748f82ee, 0x78a5636f, 0x84c87814, 0x8cc70208,
        0x90befffa, 0xa4506ceb, 0xbef9a3f7, 0xc67178f2
    };

    private final Keys nextKeys;
    private final Side sender;
    private final Side receiver;
    /** Keys for the packet behind the one whose length the receiver knows already. */
    private final Keys waitingKeys;
    private boolean keysWait;

    private final ByteQueue payload;
    private final ByteQueue way;
    private final ByteQueue came;
    private final ByteQueue opened;
    /** The one packet that is being made or opened, used again by every call. */
    private final ByteQueue packet;

    private final CounterCipher cipher;
    private final Sealer sealer;

    /** UNKNOWN as long as take has not seen sixteen bytes of the next packet. */
    private int knownLength;
    private int fault;

    public PacketGuard() {
        nextKeys = new Keys();
        sender = new Side();
        receiver = new Side();
        waitingKeys = new Keys();
        payload = new ByteQueue(MOST_PAYLOAD);
        way = new ByteQueue(MOST_ON_THE_WAY);
        came = new ByteQueue(MOST_UNOPENED);
        // A forged and altered packet may hold more payload than send can make.
        opened = new ByteQueue(MOST_LENGTH);
        packet = new ByteQueue(LENGTH_BYTES + MOST_LENGTH);
        cipher = new CounterCipher();
        sealer = new Sealer();
    }

    public void key(int i, int v) throws IndexOutOfBoundsException {
        nextKeys.change(i, v);
    }

    public void turn(int side) throws IndexOutOfBoundsException {
        Side turned = sideOf(side);
        if (side == RECEIVER && knownLength != UNKNOWN) {
            waitingKeys.copyFrom(nextKeys);
            keysWait = true;
        } else {
            turned.keys().copyFrom(nextKeys);
        }
    }

    public int put(int v, int n) throws IllegalArgumentException, IllegalStateException {
        if (n < 1 || n > 4) {
            throw new IllegalArgumentException("a word gives one to four bytes");
        }
        if (payload.size() + n > MOST_PAYLOAD) {
            throw new IllegalStateException("the payload would be too long");
        }
        for (int i = n - 1; i >= 0; i--) {
            payload.add(v >>> (8 * i));
        }
        return payload.size();
    }

    public int send(int pad) throws IllegalStateException {
        int padding = paddingFor(payload.size());
        return ship(HEAD_BYTES - LENGTH_BYTES + payload.size() + padding, padding, pad);
    }

    public int forge(int length, int padding) throws IllegalStateException {
        return ship(length, padding, 0);
    }

    public int onTheWay() {
        return way.size();
    }

    public int octet(int i) throws IndexOutOfBoundsException {
        return way.at(i);
    }

    public void alter(int i, int mask) throws IndexOutOfBoundsException {
        way.flip(i, mask);
    }

    public int link(int n) throws IllegalArgumentException, IllegalStateException {
        if (n < 0) {
            throw new IllegalArgumentException("fewer than no bytes");
        }
        int moved = Math.min(n, way.size());
        if (came.size() + moved > MOST_UNOPENED) {
            throw new IllegalStateException("the receiver would have too much");
        }
        for (int i = 0; i < moved; i++) {
            came.add(way.at(i));
        }
        way.dropFirst(moved);
        return moved;
    }

    public int take() {
        if (fault == NO_FAULT && knownLength == UNKNOWN && came.size() >= BLOCK_BYTES) {
            learnLength();
        }
        if (fault != NO_FAULT) {
            return -fault;
        }
        int whole = LENGTH_BYTES + knownLength;
        if (knownLength == UNKNOWN || came.size() < whole + SEAL_BYTES) {
            return NONE;
        }
        decipherPacket(whole);
        fault = faultOfPacket(whole);
        if (fault != NO_FAULT) {
            return -fault;
        }
        openPacket(whole);
        return opened.size();
    }

    public int got(int i) throws IndexOutOfBoundsException {
        return opened.at(i);
    }

    public int number(int side) throws IndexOutOfBoundsException {
        return sideOf(side).nextNumber();
    }

    public void begin() {
        nextKeys.clear();
        sender.clear();
        receiver.clear();
        keysWait = false;
        payload.clear();
        way.clear();
        came.clear();
        opened.clear();
        knownLength = UNKNOWN;
        fault = NO_FAULT;
    }

    private Side sideOf(int side) {
        if (side != SENDER && side != RECEIVER) {
            throw new IndexOutOfBoundsException("no such side");
        }
        return side == SENDER ? sender : receiver;
    }

    private static int paddingFor(int payloadBytes) {
        int least = HEAD_BYTES + payloadBytes + LEAST_PADDING;
        return LEAST_PADDING + Math.floorMod(-least, BLOCK_BYTES);
    }

    /** Sends the payload behind a length and a padding byte that need not be the true ones. */
    private int ship(int toldLength, int toldPadding, int firstPad) {
        int padding = paddingFor(payload.size());
        int all = HEAD_BYTES + payload.size() + padding + SEAL_BYTES;
        if (way.size() + all > MOST_ON_THE_WAY) {
            throw new IllegalStateException("too much would be on the way");
        }
        packet.clear();
        packet.addWord(toldLength);
        packet.add(toldPadding);
        packet.addFrom(payload, 0, payload.size());
        for (int i = 0; i < padding; i++) {
            packet.add(firstPad + PADDING_STEP * i);
        }
        // The seal is of the packet as it was before it was enciphered.
        sealer.seal(sender.keys(), sender.nextNumber(), packet);
        cipher.apply(sender.keys(), packet);
        way.addFrom(packet, 0, packet.size());
        for (int i = 0; i < SEAL_BYTES; i++) {
            way.add(sealer.sealByte(i));
        }
        sender.countPacket();
        payload.clear();
        return all;
    }

    /** Reads the next packet's length; the counter stays, for the whole packet begins with it. */
    private void learnLength() {
        cipher.firstBlock(receiver.keys());
        int length = 0;
        for (int i = 0; i < LENGTH_BYTES; i++) {
            length = (length << 8) | (came.at(i) ^ cipher.blockByte(i));
        }
        if (length < LEAST_LENGTH || length > MOST_LENGTH
                || length % BLOCK_BYTES != LEAST_LENGTH) {
            fault = BAD_LENGTH;
        } else {
            knownLength = length;
        }
    }

    private void decipherPacket(int whole) {
        packet.clear();
        packet.addFrom(came, 0, whole);
        cipher.apply(receiver.keys(), packet);
    }

    private int faultOfPacket(int whole) {
        sealer.seal(receiver.keys(), receiver.nextNumber(), packet);
        for (int i = 0; i < SEAL_BYTES; i++) {
            if (sealer.sealByte(i) != came.at(whole + i)) {
                return BAD_SEAL;
            }
        }
        int padding = packet.at(LENGTH_BYTES);
        return padding < LEAST_PADDING || padding > knownLength - 1 ? BAD_PADDING : NO_FAULT;
    }

    private void openPacket(int whole) {
        opened.clear();
        opened.addFrom(packet, HEAD_BYTES, whole - packet.at(LENGTH_BYTES));
        came.dropFirst(whole + SEAL_BYTES);
        receiver.countPacket();
        knownLength = UNKNOWN;
        if (keysWait) {
            receiver.keys().copyFrom(waitingKeys);
            keysWait = false;
        }
    }

    /** Sixteen words: 0 .. 3 the key for blocks, 4 .. 7 the counter, 8 .. 15 the key for seals. */
    private static final class Keys {
        static final int COUNTER = 4;

        private static final int WORDS = 16;
        private static final int COUNTER_LAST = 7;

        private final int[] words = new int[WORDS];

        int word(int i) {
            checkIndex(i);
            return words[i];
        }

        void change(int i, int v) {
            checkIndex(i);
            words[i] = v;
        }

        void copyFrom(Keys other) {
            for (int i = 0; i < WORDS; i++) {
                words[i] = other.words[i];
            }
        }

        void clear() {
            for (int i = 0; i < WORDS; i++) {
                words[i] = 0;
            }
        }

        void countUp() {
            for (int i = COUNTER_LAST; i >= COUNTER; i--) {
                words[i]++;
                if (words[i] != 0) {
                    return;
                }
            }
        }

        private static void checkIndex(int i) {
            if (i < 0 || i >= WORDS) {
                throw new IndexOutOfBoundsException("no such word of the keys");
            }
        }
    }

    /** What the sender and the receiver each have: keys, and a number that outlives them. */
    private static final class Side {
        private final Keys keys = new Keys();
        private int nextNumber;

        Keys keys() {
            return keys;
        }

        int nextNumber() {
            return nextNumber;
        }

        void countPacket() {
            nextNumber++;
        }

        void clear() {
            keys.clear();
            nextNumber = 0;
        }
    }

    /** Bytes in a ring, so that those that leave in front cost no moving of the others. */
    private static final class ByteQueue {
        private final byte[] ring;
        private int start;
        private int size;

        ByteQueue(int capacity) {
            ring = new byte[Math.max(capacity, 1)];
        }

        int size() {
            return size;
        }

        int at(int i) {
            checkIndex(i);
            return ring[place(i)] & 255;
        }

        void flip(int i, int mask) {
            checkIndex(i);
            ring[place(i)] ^= (byte) mask;
        }

        /** Takes the lowest byte. Callers ask for room first: what has none is left out. */
        void add(int b) {
            if (size < ring.length) {
                ring[place(size)] = (byte) b;
                size++;
            }
        }

        void addWord(int word) {
            for (int shift = 24; shift >= 0; shift -= 8) {
                add(word >>> shift);
            }
        }

        /** Takes the other's bytes from .. end - 1. */
        void addFrom(ByteQueue other, int from, int end) {
            for (int i = from; i < end; i++) {
                add(other.at(i));
            }
        }

        void dropFirst(int n) {
            int dropped = Math.max(0, Math.min(n, size));
            size -= dropped;
            start = size == 0 ? 0 : place(dropped);
        }

        void clear() {
            start = 0;
            size = 0;
        }

        private void checkIndex(int i) {
            if (i < 0 || i >= size) {
                throw new IndexOutOfBoundsException("no such byte");
            }
        }

        private int place(int i) {
            int straight = start + i;
            return straight < ring.length ? straight : straight - ring.length;
        }
    }

    /** Xors bytes with the enciphered blocks of a counter. */
    private static final class CounterCipher {
        private static final int ROUNDS = 10;
        private static final int KEY_WORDS = 4;
        private static final int ALL_WORDS = 44;

        private final int[] words = new int[ALL_WORDS];
        private final int[] block = new int[BLOCK_BYTES];
        private final int[] moved = new int[BLOCK_BYTES];

        /** The keys' counter goes up by one for each sixteen bytes. */
        void apply(Keys keys, ByteQueue bytes) {
            spreadKey(keys);
            int size = bytes.size();
            for (int i = 0; i < size; i++) {
                int place = i % BLOCK_BYTES;
                if (place == 0) {
                    encipherCounter(keys);
                    keys.countUp();
                }
                bytes.flip(i, block[place]);
            }
        }

        /** Leaves the counter as it is. */
        void firstBlock(Keys keys) {
            spreadKey(keys);
            encipherCounter(keys);
        }

        int blockByte(int i) {
            return block[i & 15];
        }

        private void spreadKey(Keys keys) {
            for (int i = 0; i < KEY_WORDS; i++) {
                words[i] = keys.word(i);
            }
            int power = 1;
            for (int i = KEY_WORDS; i < ALL_WORDS; i++) {
                int x = words[i - 1];
                if (i % KEY_WORDS == 0) {
                    x = substituteWord((x << 8) | (x >>> 24)) ^ (power << 24);
                    power = twice(power);
                }
                words[i] = words[i - KEY_WORDS] ^ x;
            }
        }

        private void encipherCounter(Keys keys) {
            for (int i = 0; i < BLOCK_BYTES; i++) {
                block[i] = byteOf(keys.word(Keys.COUNTER + i / 4), i % 4);
            }
            addRoundKey(0);
            for (int round = 1; round <= ROUNDS; round++) {
                substituteAndShift();
                if (round < ROUNDS) {
                    mixColumns();
                }
                addRoundKey(round);
            }
        }

        private void addRoundKey(int round) {
            for (int i = 0; i < BLOCK_BYTES; i++) {
                block[i] ^= byteOf(words[4 * round + i / 4], i % 4);
            }
        }

        private void substituteAndShift() {
            for (int c = 0; c < 4; c++) {
                for (int r = 0; r < 4; r++) {
                    moved[4 * c + r] = S[block[4 * ((c + r) % 4) + r] & 255];
                }
            }
            for (int i = 0; i < BLOCK_BYTES; i++) {
                block[i] = moved[i];
            }
        }

        private void mixColumns() {
            for (int c = 0; c < BLOCK_BYTES; c += 4) {
                int a0 = block[c];
                int a1 = block[c + 1];
                int a2 = block[c + 2];
                int a3 = block[c + 3];
                int sum = a0 ^ a1 ^ a2 ^ a3;
                // 2 a + 3 b + c + d is a + (a + b + c + d) + 2 (a + b).
                block[c] = a0 ^ sum ^ twice(a0 ^ a1);
                block[c + 1] = a1 ^ sum ^ twice(a1 ^ a2);
                block[c + 2] = a2 ^ sum ^ twice(a2 ^ a3);
                block[c + 3] = a3 ^ sum ^ twice(a3 ^ a0);
            }
        }

        private static int substituteWord(int word) {
            int substituted = 0;
            for (int i = 0; i < 4; i++) {
                substituted = (substituted << 8) | S[byteOf(word, i)];
            }
            return substituted;
        }

        /** Twice a byte, in the field. */
        private static int twice(int b) {
            return (b & 128) == 0 ? b << 1 : (b << 1) ^ 0x11b;
        }

        /** Byte i of a word, 0 the highest. */
        private static int byteOf(int word, int i) {
            return (word >>> (24 - 8 * i)) & 255;
        }
    }

    /** Makes the seal of a packet and its number, a digest within a digest. */
    private static final class Sealer {
        private static final int SEAL_KEY = 8;
        private static final int SEAL_KEY_WORDS = 8;
        private static final int SPREAD_KEY_WORDS = 16;
        /** 54 and 92, each in all four bytes of a word. */
        private static final int INNER = 0x36363636;
        private static final int OUTER = 0x5c5c5c5c;
        /** The key, the number and the longest packet, brought to whole rows by the digest. */
        private static final int MOST_TEXT = 640;

        private final ByteQueue text = new ByteQueue(MOST_TEXT);
        private final Digest digest = new Digest();

        void seal(Keys keys, int packetNumber, ByteQueue bytes) {
            startText(keys, INNER);
            text.addWord(packetNumber);
            text.addFrom(bytes, 0, bytes.size());
            digest.digest(text);
            startText(keys, OUTER);
            for (int i = 0; i < Digest.STATE_WORDS; i++) {
                text.addWord(digest.stateWord(i));
            }
            digest.digest(text);
        }

        /** Byte i of the seal that was made latest. */
        int sealByte(int i) {
            return (digest.stateWord(i / 4) >>> (24 - 8 * (i % 4))) & 255;
        }

        private void startText(Keys keys, int mask) {
            text.clear();
            for (int i = 0; i < SEAL_KEY_WORDS; i++) {
                text.addWord(keys.word(SEAL_KEY + i) ^ mask);
            }
            for (int i = SEAL_KEY_WORDS; i < SPREAD_KEY_WORDS; i++) {
                text.addWord(mask);
            }
        }
    }

    private static final class Digest {
        static final int STATE_WORDS = 8;

        private static final int ROW_BYTES = 64;
        private static final int ROW_WORDS = 16;
        private static final int ROUNDS = 64;
        /** Where the length in bits stands within the last row. */
        private static final int LENGTH_AT = 56;

        private final int[] state = new int[STATE_WORDS];
        private final int[] w = new int[ROUNDS];

        /** Brings the text to whole rows, for which it needs room, and takes them in. */
        void digest(ByteQueue text) {
            int bits = 8 * text.size();
            text.add(128);
            int zeros = Math.floorMod(LENGTH_AT - text.size(), ROW_BYTES);
            for (int i = 0; i < zeros; i++) {
                text.add(0);
            }
            // No text comes near 2^32 bits: the high word of its length is 0.
            text.addWord(0);
            text.addWord(bits);
            for (int i = 0; i < STATE_WORDS; i++) {
                state[i] = DIGEST_START[i];
            }
            int last = text.size() - ROW_BYTES;
            for (int from = 0; from <= last; from += ROW_BYTES) {
                readRow(text, from);
                spreadRow();
                mixRow();
            }
        }

        int stateWord(int i) {
            return state[i & 7];
        }

        private void readRow(ByteQueue text, int from) {
            for (int i = 0; i < ROW_BYTES; i++) {
                // Four bytes push all that a word was before out of it.
                w[i / 4] = (w[i / 4] << 8) | text.at(from + i);
            }
        }

        private void mixRow() {
            int a = state[0];
            int b = state[1];
            int c = state[2];
            int d = state[3];
            int e = state[4];
            int f = state[5];
            int g = state[6];
            int h = state[7];
            for (int t = 0; t < ROUNDS; t++) {
                int u = h + turnedE(e) + ((e & f) ^ (~e & g)) + DIGEST_ROUND[t] + w[t];
                int v = turnedA(a) + ((a & b) ^ (a & c) ^ (b & c));
                h = g;
                g = f;
                f = e;
                e = d + u;
                d = c;
                c = b;
                b = a;
                a = u + v;
            }
            state[0] += a;
            state[1] += b;
            state[2] += c;
            state[3] += d;
            state[4] += e;
            state[5] += f;
            state[6] += g;
            state[7] += h;
        }

        private void spreadRow() {
            for (int t = ROW_WORDS; t < ROUNDS; t++) {
                int x = w[t - 15];
                int s = ror(x, 7) ^ ror(x, 18) ^ (x >>> 3);
                int y = w[t - 2];
                int r = ror(y, 17) ^ ror(y, 19) ^ (y >>> 10);
                w[t] = w[t - 16] + s + w[t - 7] + r;
            }
        }

        private static int turnedE(int e) {
            return ror(e, 6) ^ ror(e, 11) ^ ror(e, 25);
        }

        private static int turnedA(int a) {
            return ror(a, 2) ^ ror(a, 13) ^ ror(a, 22);
        }

        /** Turns x right by n bits, n being 1 .. 31. */
        private static int ror(int x, int n) {
            return (x >>> n) | (x << (32 - n));
        }
    }
}
