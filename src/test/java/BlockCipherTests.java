import java.util.ArrayList;
import java.util.List;
import java.util.Random;

/**
 * Promises 5 and 7 by the words of the document's part 2 alone: S is made from its sentence, not from a table, and
 * nothing is taken from the JDK's AES, so that a place where the document went its own way would be seen.
 */
public final class BlockCipherTests {
    private static final int MODULUS = 0x11b;
    private static final int[] KEY_LENGTHS = {16, 24, 32};
    private static final int[] S = new int[256];

    private static int wrong = 0;

    public static void main(String[] args) {
        for (int b = 0; b < 256; b++) {
            S[b] = substitute(b);
        }
        everyByteInEveryBlock();
        everyByteOfAKeyAlone();
        keysAndBlocksByChance();
        blockBehindBlock();
        System.out.println(wrong == 0 ? "all answers are as due" : wrong + " answers are not as due");
        if (wrong != 0) {
            System.exit(1);
        }
    }

    // ---- the document's words

    /** "Bytes are multiplied as polynomials modulo [11b]." */
    private static int times(int a, int b) {
        int product = 0;
        for (int k = 0; k < 8; k++) {
            if ((b >> k & 1) != 0) {
                product ^= a << k;
            }
        }
        for (int k = 15; k >= 8; k--) {
            if ((product >> k & 1) != 0) {
                product ^= MODULUS << (k - 8);
            }
        }
        return product;
    }

    /** "i is what makes 1 of it (0 of 0); i ^ i rotated left by 1, 2, 3, 4 (8 bits) ^ [63]". */
    private static int substitute(int b) {
        int i = 0;
        for (int other = 0; other < 256; other++) {
            if (times(b, other) == 1) {
                i = other;
            }
        }
        int answer = i ^ 0x63;
        for (int k = 1; k <= 4; k++) {
            answer ^= (i << k | i >> (8 - k)) & 0xff;
        }
        return answer;
    }

    /** "4 (r + 1) words: those of the key, then word k is word k - w xor t". */
    private static List<int[]> words(int[] key) {
        int w = key.length / 4;
        int r = w + 6;
        List<int[]> words = new ArrayList<>();
        for (int k = 0; k < w; k++) {
            words.add(new int[] {key[4 * k], key[4 * k + 1], key[4 * k + 2], key[4 * k + 3]});
        }
        List<Integer> powers = new ArrayList<>(List.of(1));
        while (powers.size() < 16) {
            powers.add(times(powers.get(powers.size() - 1), 2));
        }
        for (int k = w; k < 4 * (r + 1); k++) {
            int[] t = words.get(k - 1).clone();
            if (k % w == 0) {
                t = new int[] {S[t[1]], S[t[2]], S[t[3]], S[t[0]]};
                t[0] ^= powers.get(k / w - 1);
            }
            if (w == 8 && k % 8 == 4) {
                t = new int[] {S[t[0]], S[t[1]], S[t[2]], S[t[3]]};
            }
            words.add(xor(words.get(k - w), t));
        }
        return words;
    }

    private static int[] xor(int[] a, int[] b) {
        int[] answer = new int[a.length];
        for (int k = 0; k < a.length; k++) {
            answer[k] = a[k] ^ b[k];
        }
        return answer;
    }

    private static int[] withWords(int[] block, List<int[]> words, int first) {
        int[] answer = new int[16];
        for (int k = 0; k < 16; k++) {
            answer[k] = block[k] ^ words.get(first + k / 4)[k % 4];
        }
        return answer;
    }

    private static int[] enciphered(int[] key, int[] block) {
        List<int[]> words = words(key);
        int r = key.length / 4 + 6;
        int[] now = withWords(block, words, 0);
        for (int round = 1; round <= r; round++) {
            int[] moved = new int[16];
            for (int c = 0; c < 4; c++) {
                for (int k = 0; k < 4; k++) {
                    moved[4 * c + k] = S[now[4 * ((c + k) % 4) + k]];
                }
            }
            now = withWords(round < r ? mixed(moved) : moved, words, 4 * round);
        }
        return now;
    }

    private static int[] mixed(int[] block) {
        int[] answer = new int[16];
        for (int k = 0; k < 16; k += 4) {
            int a = block[k];
            int b = block[k + 1];
            int c = block[k + 2];
            int d = block[k + 3];
            answer[k] = times(2, a) ^ times(3, b) ^ c ^ d;
            answer[k + 1] = a ^ times(2, b) ^ times(3, c) ^ d;
            answer[k + 2] = a ^ b ^ times(2, c) ^ times(3, d);
            answer[k + 3] = times(3, a) ^ b ^ c ^ times(2, d);
        }
        return answer;
    }

    // ---- the class beside them

    private static void type(NumeralCipher x, int[] bytes) {
        for (int k = 0; k < bytes.length; k += 8) {
            long number = 0;
            for (int j = k; j < k + 8; j++) {
                number = number << 8 | bytes[j];
            }
            x.type(number, 8);
        }
    }

    private static int[] typed(NumeralCipher x) {
        int[] bytes = new int[x.count(4)];
        for (int k = 0; k < bytes.length; k++) {
            bytes[k] = x.typed(k);
        }
        return bytes;
    }

    private static String hex(int[] bytes) {
        StringBuilder text = new StringBuilder();
        for (int b : bytes) {
            text.append(String.format("%02x", b));
        }
        return text.toString();
    }

    private static void due(String what, String got, String want) {
        if (!got.equals(want)) {
            wrong++;
            System.out.println(what + " answered " + got + ", due is " + want);
        }
    }

    private static NumeralCipher keyed(int[] key) {
        NumeralCipher x = new NumeralCipher();
        type(x, key);
        due("key of " + hex(key), String.valueOf(x.key()), String.valueOf(key.length / 4 + 6));
        return x;
    }

    private static void oneBlock(int[] key, int[] block) {
        NumeralCipher x = keyed(key);
        type(x, block);
        x.block();
        due("block of " + hex(block) + " by " + hex(key), hex(typed(x)), hex(enciphered(key, block)));
    }

    private static int[] chance(Random random, int n) {
        int[] bytes = new int[n];
        for (int k = 0; k < n; k++) {
            bytes[k] = random.nextInt(256);
        }
        return bytes;
    }

    /** With a key of 0s the first S of each byte is that of the block's own byte: all 256, in every place. */
    private static void everyByteInEveryBlock() {
        for (int n : KEY_LENGTHS) {
            for (int b = 0; b < 256; b++) {
                int[] block = new int[16];
                for (int k = 0; k < 16; k++) {
                    block[k] = b + 16 * k & 0xff;
                }
                oneBlock(new int[n], block);
            }
        }
    }

    private static void everyByteOfAKeyAlone() {
        for (int n : KEY_LENGTHS) {
            for (int place = 0; place < n; place++) {
                for (int b : new int[] {0x01, 0x80, 0xff}) {
                    int[] key = new int[n];
                    key[place] = b;
                    oneBlock(key, new int[16]);
                }
            }
        }
    }

    private static void keysAndBlocksByChance() {
        Random random = new Random(197);
        for (int n : KEY_LENGTHS) {
            for (int run = 0; run < 200; run++) {
                oneBlock(chance(random, n), chance(random, 16));
            }
        }
    }

    /** What a block has become is enciphered again, and the key stays what it is. */
    private static void blockBehindBlock() {
        Random random = new Random(38);
        for (int n : KEY_LENGTHS) {
            int[] key = chance(random, n);
            int[] block = chance(random, 16);
            NumeralCipher x = keyed(key);
            type(x, block);
            for (int run = 1; run <= 20; run++) {
                x.block();
                block = enciphered(key, block);
                due("block " + run + " behind one another", hex(typed(x)), hex(block));
            }
        }
    }
}
