import java.io.ByteArrayOutputStream;
import java.math.BigInteger;
import java.nio.ByteBuffer;
import java.security.GeneralSecurityException;
import java.util.Arrays;
import javax.crypto.Cipher;
import javax.crypto.Mac;
import javax.crypto.spec.IvParameterSpec;
import javax.crypto.spec.SecretKeySpec;

/** The document once more, by the cipher and the seal of the Java library, without thrift. */
final class Model {
    private int[] next = new int[16];
    private final int[][] keys = {new int[16], new int[16]};
    private final int[] numbers = new int[2];
    private int[] waiting;
    private boolean seen;
    private int fault;
    private byte[] payload = {};
    private byte[] way = {};
    private byte[] came = {};
    private byte[] opened = {};

    int key(int i, int v) {
        index(i, 16);
        next[i] = v;
        return 0;
    }

    int turn(int side) {
        index(side, 2);
        if (side == 1 && seen) {
            waiting = next.clone();
        } else {
            keys[side] = next.clone();
        }
        return 0;
    }

    int put(int v, int n) {
        if (n < 1 || n > 4) {
            throw new IllegalArgumentException();
        }
        if (payload.length + n > 500) {
            throw new IllegalStateException();
        }
        byte[] word = ByteBuffer.allocate(4).putInt(v).array();
        payload = join(payload, Arrays.copyOfRange(word, 4 - n, 4));
        return payload.length;
    }

    int send(int pad) {
        int padding = padding();
        return ship(1 + payload.length + padding, padding, pad);
    }

    int forge(int length, int padding) {
        return ship(length, padding, 0);
    }

    int onTheWay() {
        return way.length;
    }

    int octet(int i) {
        index(i, way.length);
        return way[i] & 255;
    }

    int alter(int i, int mask) {
        index(i, way.length);
        way[i] = (byte) (way[i] ^ mask);
        return 0;
    }

    int link(int n) {
        if (n < 0) {
            throw new IllegalArgumentException();
        }
        int moved = Math.min(n, way.length);
        if (came.length + moved > 2000) {
            throw new IllegalStateException();
        }
        came = join(came, Arrays.copyOf(way, moved));
        way = Arrays.copyOfRange(way, moved, way.length);
        return moved;
    }

    int take() {
        if (fault != 0) {
            return -fault;
        }
        if (came.length < 16) {
            return PacketGuard.NONE;
        }
        seen = true;
        int length = ByteBuffer.wrap(stream(keys[1], Arrays.copyOf(came, 16))).getInt();
        if (length < 12 || length > 540 || (length & 15) != 12) {
            fault = 2;
            return -2;
        }
        int whole = length + 4;
        if (came.length < whole + 32) {
            return PacketGuard.NONE;
        }
        byte[] plain = stream(keys[1], Arrays.copyOf(came, whole));
        byte[] seal = Arrays.copyOfRange(came, whole, whole + 32);
        int padding = plain[4] & 255;
        if (!Arrays.equals(seal, seal(keys[1], numbers[1], plain))) {
            fault = 3;
        } else if (padding < 4 || padding > length - 1) {
            fault = 4;
        }
        if (fault != 0) {
            return -fault;
        }
        opened = Arrays.copyOfRange(plain, 5, whole - padding);
        came = Arrays.copyOfRange(came, whole + 32, came.length);
        numbers[1]++;
        seen = false;
        keys[1] = waiting != null ? waiting : counted(keys[1], whole / 16);
        waiting = null;
        return opened.length;
    }

    int got(int i) {
        index(i, opened.length);
        return opened[i] & 255;
    }

    int openedLength() {
        return opened.length;
    }

    int number(int side) {
        index(side, 2);
        return numbers[side];
    }

    int begin() {
        next = new int[16];
        keys[0] = new int[16];
        keys[1] = new int[16];
        Arrays.fill(numbers, 0);
        waiting = null;
        seen = false;
        fault = 0;
        payload = new byte[0];
        way = new byte[0];
        came = new byte[0];
        opened = new byte[0];
        return 0;
    }

    /** Is nothing under way between the two sides, so that both may turn at once? */
    boolean isQuiet() {
        return way.length == 0 && came.length == 0;
    }

    boolean isDead() {
        return fault != 0;
    }

    void setNumbers(int sent, int opened) {
        numbers[0] = sent;
        numbers[1] = opened;
    }

    byte[] way() {
        return way.clone();
    }

    /** Bytes enciphered, or deciphered, from the first block of keys that are all 0 on. */
    static byte[] streamOfZeroKeys(byte[] bytes) {
        return stream(new int[16], bytes);
    }

    /** The first packet of keys that are all 0, with its seal. */
    static byte[] packetOfZeroKeys(byte[] plain) {
        int[] zeros = new int[16];
        return join(stream(zeros, plain), seal(zeros, 0, plain));
    }

    private int padding() {
        int padding = 4;
        while ((5 + payload.length + padding) % 16 != 0) {
            padding++;
        }
        return padding;
    }

    private int ship(int length, int told, int pad) {
        ByteArrayOutputStream out = new ByteArrayOutputStream();
        out.writeBytes(ByteBuffer.allocate(4).putInt(length).array());
        out.write(told);
        out.writeBytes(payload);
        int padding = padding();
        for (int i = 0; i < padding; i++) {
            out.write(pad + 37 * i);
        }
        byte[] plain = out.toByteArray();
        if (way.length + plain.length + 32 > 6000) {
            throw new IllegalStateException();
        }
        way = join(way, join(stream(keys[0], plain), seal(keys[0], numbers[0], plain)));
        keys[0] = counted(keys[0], plain.length / 16);
        numbers[0]++;
        payload = new byte[0];
        return plain.length + 32;
    }

    private static byte[] stream(int[] keys, byte[] bytes) {
        try {
            Cipher cipher = Cipher.getInstance("AES/CTR/NoPadding");
            cipher.init(Cipher.ENCRYPT_MODE, new SecretKeySpec(bytes(keys, 0, 4), "AES"),
                    new IvParameterSpec(bytes(keys, 4, 8)));
            return cipher.doFinal(bytes);
        } catch (GeneralSecurityException e) {
            throw new AssertionError(e);
        }
    }

    static byte[] seal(int[] keys, int number, byte[] plain) {
        try {
            Mac mac = Mac.getInstance("HmacSHA256");
            mac.init(new SecretKeySpec(bytes(keys, 8, 16), "HmacSHA256"));
            mac.update(ByteBuffer.allocate(4).putInt(number).array());
            return mac.doFinal(plain);
        } catch (GeneralSecurityException e) {
            throw new AssertionError(e);
        }
    }

    private static int[] counted(int[] keys, int blocks) {
        BigInteger counter = new BigInteger(1, bytes(keys, 4, 8)).add(BigInteger.valueOf(blocks));
        int[] after = keys.clone();
        for (int i = 0; i < 4; i++) {
            after[7 - i] = counter.shiftRight(32 * i).intValue();
        }
        return after;
    }

    private static byte[] bytes(int[] words, int from, int end) {
        ByteBuffer buffer = ByteBuffer.allocate(4 * (end - from));
        for (int i = from; i < end; i++) {
            buffer.putInt(words[i]);
        }
        return buffer.array();
    }

    private static byte[] join(byte[] a, byte[] b) {
        byte[] both = Arrays.copyOf(a, a.length + b.length);
        System.arraycopy(b, 0, both, a.length, b.length);
        return both;
    }

    private static void index(int i, int size) {
        if (i < 0 || i >= size) {
            throw new IndexOutOfBoundsException();
        }
    }
}
