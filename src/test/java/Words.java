import java.math.BigInteger;
import java.util.ArrayList;
import java.util.List;

/** The document's cipher, digest and seal by its own words: no table and nothing of the library's. */
final class Words {
    private static final int[] START = {0x6a09e667, 0xbb67ae85, 0x3c6ef372, 0xa54ff53a,
        0x510e527f, 0x9b05688c, 0x1f83d9ab, 0x5be0cd19};

    private final int[] substitutes = new int[256];
    private final int[] k = new int[64];
    private final boolean[] substituted = new boolean[256];

    Words() {
        for (int b = 0; b < 256; b++) {
            substitutes[b] = substituteOf(b);
        }
        int prime = 2;
        for (int t = 0; t < 64; t++) {
            k[t] = bitsOfCubeRoot(prime);
            prime = BigInteger.valueOf(prime).nextProbablePrime().intValue();
        }
    }

    /** How many values of a byte went by S until now. */
    int bytesSubstituted() {
        int many = 0;
        for (boolean one : substituted) {
            many += one ? 1 : 0;
        }
        return many;
    }

    /** The packet's own bytes, enciphered from a counter on, and its seal. */
    int[] packet(int[] keys, BigInteger counter, int number, int[] payload, int pad) {
        int padding = 4;
        while ((4 + 1 + payload.length + padding) % 16 != 0) {
            padding++;
        }
        int[] plain = new int[5 + payload.length + padding];
        putWord(plain, 0, plain.length - 4);
        plain[4] = padding;
        System.arraycopy(payload, 0, plain, 5, payload.length);
        for (int i = 0; i < padding; i++) {
            plain[5 + payload.length + i] = pad + 37 * i & 255;
        }
        int[] numbered = new int[4 + plain.length];
        putWord(numbered, 0, number);
        System.arraycopy(plain, 0, numbered, 4, plain.length);
        int[] all = new int[plain.length + 32];
        System.arraycopy(seal(bytes(keys, 8, 16), numbered), 0, all, plain.length, 32);
        for (int i = 0; i < plain.length; i++) {
            int[] mask = encipher(keys, blockOf(counter.add(BigInteger.valueOf(i / 16))));
            all[i] = plain[i] ^ mask[i % 16];
        }
        return all;
    }

    private int[] encipher(int[] key, int[] block) {
        int[] w = new int[44];
        System.arraycopy(key, 0, w, 0, 4);
        int power = 1;
        for (int i = 4; i < 44; i++) {
            int x = w[i - 1];
            if (i % 4 == 0) {
                int[] turned = bytes(new int[] {Integer.rotateLeft(x, 8)}, 0, 1);
                for (int j = 0; j < 4; j++) {
                    turned[j] = s(turned[j]);
                }
                turned[0] ^= power;
                x = word(turned, 0);
                power = product(power, 2);
            }
            w[i] = w[i - 4] ^ x;
        }
        int[] b = xor(block, bytes(w, 0, 4));
        for (int round = 1; round <= 10; round++) {
            int[] moved = new int[16];
            for (int i = 0; i < 16; i++) {
                int c = i / 4;
                int r = i % 4;
                moved[4 * c + r] = s(b[4 * ((c + r) % 4) + r]);
            }
            b = xor(round == 10 ? moved : mixed(moved), bytes(w, 4 * round, 4 * round + 4));
        }
        return b;
    }

    private static int[] mixed(int[] b) {
        int[] mixed = new int[16];
        for (int i = 0; i < 16; i++) {
            int from = i / 4 * 4;
            int r = i % 4;
            mixed[i] = product(2, b[i]) ^ product(3, b[from + (r + 1) % 4])
                    ^ b[from + (r + 2) % 4] ^ b[from + (r + 3) % 4];
        }
        return mixed;
    }

    private int s(int b) {
        substituted[b] = true;
        return substitutes[b];
    }

    private static int substituteOf(int b) {
        int c = 0;
        for (int other = 1; other < 256; other++) {
            c = product(b, other) == 1 ? other : c;
        }
        int sum = 0;
        for (int i = 0; i < 8; i++) {
            int bit = c >> i ^ c >> (i + 4) % 8 ^ c >> (i + 5) % 8 ^ c >> (i + 6) % 8
                    ^ c >> (i + 7) % 8 ^ 99 >> i;
            sum |= (bit & 1) << i;
        }
        return sum;
    }

    /** Polynomials over bits modulo x^8 + x^4 + x^3 + x + 1. */
    private static int product(int a, int b) {
        int product = 0;
        for (int i = 0; i < 8; i++) {
            product ^= (b >> i & 1) == 1 ? a << i : 0;
        }
        int modulus = 1 << 8 | 1 << 4 | 1 << 3 | 1 << 1 | 1;
        for (int i = 15; i >= 8; i--) {
            product ^= (product >> i & 1) == 1 ? modulus << i - 8 : 0;
        }
        return product;
    }

    private int[] seal(int[] key, int[] bytes) {
        int[] inner = new int[64 + bytes.length];
        int[] outer = new int[64 + 32];
        for (int i = 0; i < 64; i++) {
            int b = i < key.length ? key[i] : 0;
            inner[i] = b ^ 54;
            outer[i] = b ^ 92;
        }
        System.arraycopy(bytes, 0, inner, 64, bytes.length);
        System.arraycopy(digest(inner), 0, outer, 64, 32);
        return digest(outer);
    }

    private int[] digest(int[] bytes) {
        List<Integer> bits = new ArrayList<>();
        for (int b : bytes) {
            addBits(bits, b, 8);
        }
        bits.add(1);
        while (bits.size() % 512 != 448) {
            bits.add(0);
        }
        addBits(bits, 8L * bytes.length, 64);
        int[] h = START.clone();
        for (int from = 0; from < bits.size(); from += 512) {
            mix(h, row(bits, from));
        }
        return bytes(h, 0, 8);
    }

    private static int[] row(List<Integer> bits, int from) {
        int[] w = new int[64];
        for (int i = 0; i < 512; i++) {
            w[i / 32] = w[i / 32] << 1 | bits.get(from + i);
        }
        for (int t = 16; t < 64; t++) {
            int x = w[t - 15];
            int s = ror(x, 7) ^ ror(x, 18) ^ x >>> 3;
            int y = w[t - 2];
            int r = ror(y, 17) ^ ror(y, 19) ^ y >>> 10;
            w[t] = w[t - 16] + s + w[t - 7] + r;
        }
        return w;
    }

    /** The letters a .. h of the document are the places 0 .. 7. */
    private void mix(int[] state, int[] w) {
        int[] l = state.clone();
        for (int t = 0; t < 64; t++) {
            int u = l[7] + (ror(l[4], 6) ^ ror(l[4], 11) ^ ror(l[4], 25))
                    + (l[4] & l[5] ^ ~l[4] & l[6]) + k[t] + w[t];
            int v = (ror(l[0], 2) ^ ror(l[0], 13) ^ ror(l[0], 22))
                    + (l[0] & l[1] ^ l[0] & l[2] ^ l[1] & l[2]);
            System.arraycopy(l.clone(), 0, l, 1, 7);
            l[4] += u;
            l[0] = u + v;
        }
        for (int i = 0; i < 8; i++) {
            state[i] += l[i];
        }
    }

    private static int bitsOfCubeRoot(int prime) {
        BigInteger cube = BigInteger.valueOf(prime).shiftLeft(96);
        BigInteger root = BigInteger.ZERO;
        for (int i = 40; i >= 0; i--) {
            BigInteger higher = root.setBit(i);
            root = higher.pow(3).compareTo(cube) <= 0 ? higher : root;
        }
        return root.intValue();
    }

    private static int[] blockOf(BigInteger counter) {
        int[] block = new int[16];
        for (int i = 0; i < 16; i++) {
            block[15 - i] = counter.shiftRight(8 * i).intValue() & 255;
        }
        return block;
    }

    private static int ror(int x, int n) {
        return Integer.rotateRight(x, n);
    }

    private static int[] xor(int[] a, int[] b) {
        int[] sum = a.clone();
        for (int i = 0; i < sum.length; i++) {
            sum[i] ^= b[i];
        }
        return sum;
    }

    private static void addBits(List<Integer> bits, long number, int many) {
        for (int i = many - 1; i >= 0; i--) {
            bits.add((int) (number >>> i & 1));
        }
    }

    private static int[] bytes(int[] words, int from, int end) {
        int[] bytes = new int[4 * (end - from)];
        for (int i = from; i < end; i++) {
            putWord(bytes, 4 * (i - from), words[i]);
        }
        return bytes;
    }

    private static int word(int[] bytes, int from) {
        return bytes[from] << 24 | bytes[from + 1] << 16 | bytes[from + 2] << 8 | bytes[from + 3];
    }

    private static void putWord(int[] bytes, int from, int word) {
        for (int i = 0; i < 4; i++) {
            bytes[from + i] = word >>> 24 - 8 * i & 255;
        }
    }
}
