import java.util.Arrays;

/** Rows of numerals turned into others of the same length and radix, and back, by FF1 (way 0) and FF3-1 (way 1). */
public final class NumeralCipher {
    private static final int BUFFER_LIMIT = 64;
    private static final int TWEAK_LIMIT = 32;
    private static final int ROW_LIMIT = 64;
    private static final int RADIX_LIMIT = 65536;
    private static final int FEWEST_ROWS = 1000000;
    private static final int BLOCK_BYTES = 16;
    private static final int BLOCK_WORDS = 4;

    private final Bytes buffer = new Bytes();
    private final Bytes keyBytes = new Bytes();
    private final Bytes tweakBytes = new Bytes();
    private final Row row = new Row();
    private final FirstWay firstWay = new FirstWay();
    private final SecondWay secondWay = new SecondWay();
    private final Natural number = new Natural();
    private final int[] words = new int[BLOCK_WORDS];

    public NumeralCipher() {
        keyBytes.size = 16;
        expandKey();
    }

    public int type(long bytes, int n) throws IllegalArgumentException, UnsupportedOperationException {
        if (n < 1 || n > 8) {
            throw new IllegalArgumentException("n is not 1 .. 8");
        }
        if (buffer.size + n > BUFFER_LIMIT) {
            throw new UnsupportedOperationException("the buffer would have more than 64 bytes");
        }
        for (int k = n - 1; k >= 0; k--) {
            buffer.cells[buffer.size] = (int) (bytes >>> (8 * k)) & 0xff;
            buffer.size++;
        }
        return buffer.size;
    }

    public void keep(int n) throws IllegalArgumentException {
        if (n < 0 || n > buffer.size) {
            throw new IllegalArgumentException("the buffer has not so many bytes");
        }
        buffer.size = n;
    }

    public int typed(int i) throws IndexOutOfBoundsException {
        if (i < 0 || i >= buffer.size) {
            throw new IndexOutOfBoundsException("the buffer has no such byte");
        }
        return buffer.cells[i];
    }

    public int key() throws IllegalArgumentException {
        if (buffer.size != 16 && buffer.size != 24 && buffer.size != 32) {
            throw new IllegalArgumentException("a key has 16, 24 or 32 bytes");
        }
        keyBytes.takeAll(buffer);
        expandKey();
        return firstWay.cipher.rounds;
    }

    public int tweak() throws IllegalArgumentException {
        if (buffer.size > TWEAK_LIMIT) {
            throw new IllegalArgumentException("a tweak has at most 32 bytes");
        }
        tweakBytes.takeAll(buffer);
        return tweakBytes.size;
    }

    public void block() throws IllegalArgumentException {
        if (buffer.size != BLOCK_BYTES) {
            throw new IllegalArgumentException("a block has 16 bytes");
        }
        for (int k = 0; k < BLOCK_WORDS; k++) {
            words[k] = buffer.wordAt(k);
        }
        firstWay.cipher.encipher(words);
        for (int k = 0; k < BLOCK_BYTES; k++) {
            buffer.cells[k] = (words[k / 4] >>> (24 - 8 * (k % 4))) & 0xff;
        }
    }

    public int radix(int r) throws IllegalArgumentException {
        if (r < 2 || r > RADIX_LIMIT) {
            throw new IllegalArgumentException("a radix is 2 .. 65536");
        }
        int had = row.size;
        row.base = r;
        row.size = 0;
        return had;
    }

    public int numeral(int v) throws IllegalArgumentException, UnsupportedOperationException {
        if (!row.isNumeral(v)) {
            throw new IllegalArgumentException("a numeral is 0 .. radix - 1");
        }
        if (row.size >= ROW_LIMIT) {
            throw new UnsupportedOperationException("the row has 64 numerals");
        }
        row.cells[row.size] = v;
        row.size++;
        return row.size;
    }

    public void cut(int n) throws IllegalArgumentException {
        if (n < 0 || n > row.size) {
            throw new IllegalArgumentException("the row has not so many numerals");
        }
        row.size = n;
    }

    public int set(int i, int v) throws IndexOutOfBoundsException, IllegalArgumentException {
        if (!row.has(i)) {
            throw new IndexOutOfBoundsException("the row has no such numeral");
        }
        if (!row.isNumeral(v)) {
            throw new IllegalArgumentException("a numeral is 0 .. radix - 1");
        }
        int was = row.cells[i];
        row.cells[i] = v;
        return was;
    }

    public int at(int i) throws IndexOutOfBoundsException {
        if (!row.has(i)) {
            throw new IndexOutOfBoundsException("the row has no such numeral");
        }
        return row.cells[i];
    }

    public boolean can(int way) throws IllegalArgumentException {
        if (way != 0 && way != 1) {
            throw new IllegalArgumentException("a way is 0 or 1");
        }
        return isTurnable(way);
    }

    public void turn(int way, boolean back) throws IllegalArgumentException, IllegalStateException {
        if (way != 0 && way != 1) {
            throw new IllegalArgumentException("a way is 0 or 1");
        }
        if (!isTurnable(way)) {
            throw new IllegalStateException("the row can not be turned");
        }
        runRounds(wayOf(way), back);
    }

    public int count(int what) throws IndexOutOfBoundsException {
        switch (what) {
            case 0:
                return row.size;
            case 1:
                return row.base;
            case 2:
                return keyBytes.size;
            case 3:
                return tweakBytes.size;
            case 4:
                return buffer.size;
            default:
                throw new IndexOutOfBoundsException("what is 0 .. 4");
        }
    }

    private void expandKey() {
        firstWay.cipher.expand(keyBytes, false);
        secondWay.cipher.expand(keyBytes, true);
    }

    private Way wayOf(int way) {
        return way == 0 ? firstWay : secondWay;
    }

    private boolean isTurnable(int way) {
        return row.isLongEnough() && wayOf(way).takes(row, tweakBytes, number);
    }

    /*
     * The halves stay where they are: the document's A and B change places after every round, and the
     * rounds are even in number, so even rounds always change the first half and odd ones the second.
     */
    private void runRounds(Way way, boolean back) {
        int u = way.firstHalf(row.size);
        int v = row.size - u;
        int rounds = way.rounds();
        way.begin(row, tweakBytes, number);
        for (int k = 0; k < rounds; k++) {
            int round = back ? rounds - 1 - k : k;
            boolean even = round % 2 == 0;
            row.readPart(even ? u : 0, even ? v : u, way.lowestFirst(), number);
            way.makeAddend(round, number);
            row.shiftPart(even ? 0 : u, even ? u : v, way.lowestFirst(), number, back);
        }
    }

    /** At most 64 bytes, each 0 .. 255. */
    private static final class Bytes {
        private final int[] cells = new int[BUFFER_LIMIT];
        private int size;

        /** Takes what another one has and leaves it empty; 0s come behind, so that whole words can be read. */
        void takeAll(Bytes other) {
            for (int k = 0; k < BUFFER_LIMIT; k++) {
                cells[k] = k < other.size ? other.cells[k] : 0;
            }
            size = other.size;
            other.size = 0;
        }

        /** The k-th four bytes, the first one highest; 0 behind the last. */
        int wordAt(int k) {
            if (k < 0 || k >= BUFFER_LIMIT / 4) {
                return 0;
            }
            int i = 4 * k;
            return cells[i] << 24 | cells[i + 1] << 16 | cells[i + 2] << 8 | cells[i + 3];
        }
    }

    /** A number that is not negative, of words of 32 bits, the lowest first. */
    private static final class Natural {
        /* The widest number is the 68 bytes that way 0 makes for halves of 64 bytes. */
        private static final int WORD_LIMIT = 17;
        private static final long WORD = 0xffffffffL;

        private final int[] cells = new int[WORD_LIMIT];
        private int size;

        void clear() {
            Arrays.fill(cells, 0);
            size = 0;
        }

        int wordAt(int k) {
            return k >= 0 && k < size ? cells[k] : 0;
        }

        void putWord(int k, int word) {
            if (k >= 0 && k < WORD_LIMIT) {
                cells[k] = word;
                size = Math.max(size, k + 1);
            }
        }

        void multiplyAndAdd(int factor, int addend) {
            long carry = addend;
            for (int k = 0; k < size; k++) {
                long t = (cells[k] & WORD) * factor + carry;
                cells[k] = (int) t;
                carry = t >>> 32;
            }
            if (carry != 0) {
                putWord(size, (int) carry);
            }
        }

        /** Divides by a radix, and answers what is left over. */
        int divide(int divisor) {
            if (divisor < 2) {
                return 0;
            }
            long rest = 0;
            for (int k = size - 1; k >= 0; k--) {
                long t = rest << 32 | (cells[k] & WORD);
                cells[k] = (int) (t / divisor);
                rest = t % divisor;
            }
            while (size > 0 && cells[size - 1] == 0) {
                size--;
            }
            return (int) rest;
        }

        /** How many bytes it has; the highest word must not be 0. */
        int byteCount() {
            if (size == 0) {
                return 0;
            }
            int top = cells[size - 1];
            int inTop = (top >>> 24) != 0 ? 4 : (top >>> 16) != 0 ? 3 : (top >>> 8) != 0 ? 2 : 1;
            return 4 * (size - 1) + inTop;
        }
    }

    /** The row of numerals with its radix. */
    private static final class Row {
        private final int[] cells = new int[ROW_LIMIT];
        private int size;
        private int base = 10;

        boolean has(int i) {
            return i >= 0 && i < size;
        }

        boolean isNumeral(int v) {
            return v >= 0 && v < base;
        }

        boolean isLongEnough() {
            long rows = 1;
            for (int k = 0; k < size && rows < FEWEST_ROWS; k++) {
                rows *= base;
            }
            return size >= 2 && rows >= FEWEST_ROWS;
        }

        /** How many bytes the highest number of so many numerals has; the scratch is written over. */
        int widthOf(int numerals, Natural scratch) {
            scratch.clear();
            for (int k = 0; k < numerals; k++) {
                scratch.multiplyAndAdd(base, base - 1);
            }
            return scratch.byteCount();
        }

        /** The number that a part of the row stands for. */
        void readPart(int from, int length, boolean lowestFirst, Natural into) {
            into.clear();
            for (int k = length - 1; k >= 0; k--) {
                into.multiplyAndAdd(base, cells[placeOf(k, from, length, lowestFirst)]);
            }
        }

        /**
         * Adds a number to a part of the row, or takes it away; the number is used up. What is carried
         * beyond the highest numeral, and what is left of the number then, is lost by the modulus.
         */
        void shiftPart(int from, int length, boolean lowestFirst, Natural by, boolean back) {
            int carry = 0;
            for (int k = 0; k < length; k++) {
                int place = placeOf(k, from, length, lowestFirst);
                int step = by.divide(base) + carry;
                int v = back ? cells[place] - step : cells[place] + step;
                carry = isNumeral(v) ? 0 : 1;
                if (carry == 1) {
                    v = back ? v + base : v - base;
                }
                cells[place] = v;
            }
        }

        /** Where the k-th lowest numeral of a part stands. */
        private static int placeOf(int k, int from, int length, boolean lowestFirst) {
            return lowestFirst ? from + k : from + length - 1 - k;
        }
    }

    /** The block cipher (AES) with the words that a key makes; a block is four words, the first byte highest. */
    private static final class BlockCipher {
        private static final int[] S = {
            0x63, 0x7c, 0x77, 0x7b, 0xf2, 0x6b, 0x6f, 0xc5, 0x30, 0x01, 0x67, 0x2b, 0xfe, 0xd7, 0xab, 0x76,
            0xca, 0x82, 0xc9, 0x7d, 0xfa, 0x59, 0x47, 0xf0, 0xad, 0xd4, 0xa2, 0xaf, 0x9c, 0xa4, 0x72, 0xc0,
            0xb7, 0xfd, 0x93, 0x26, 0x36, 0x3f, 0xf7, 0xcc, 0x34, 0xa5, 0xe5, 0xf1, 0x71, 0xd8, 0x31, 0x15,
            0x04, 0xc7, 0x23, 0xc3, 0x18, 0x96, 0x05, 0x9a, 0x07, 0x12, 0x80, 0xe2, 0xeb, 0x27, 0xb2, 0x75,
            0x09, 0x83, 0x2c, 0x1a, 0x1b, 0x6e, 0x5a, 0xa0, 0x52, 0x3b, 0xd6, 0xb3, 0x29, 0xe3, 0x2f, 0x84,
            0x53, 0xd1, 0x00, 0xed, 0x20, 0xfc, 0xb1, 0x5b, 0x6a, 0xcb, 0xbe, 0x39, 0x4a, 0x4c, 0x58, 0xcf,
            0xd0, 0xef, 0xaa, 0xfb, 0x43, 0x4d, 0x33, 0x85, 0x45, 0xf9, 0x02, 0x7f, 0x50, 0x3c, 0x9f, 0xa8,
            0x51, 0xa3, 0x40, 0x8f, 0x92, 0x9d, 0x38, 0xf5, 0xbc, 0xb6, 0xda, 0x21, 0x10, 0xff, 0xf3, 0xd2,
            0xcd, 0x0c, 0x13, 0xec, 0x5f, 0x97, 0x44, 0x17, 0xc4, 0xa7, 0x7e, 0x3d, 0x64, 0x5d, 0x19, 0x73,
            0x60, 0x81, 0x4f, 0xdc, 0x22, 0x2a, 0x90, 0x88, 0x46, 0xee, 0xb8, 0x14, 0xde, 0x5e, 0x0b, 0xdb,
            0xe0, 0x32, 0x3a, 0x0a, 0x49, 0x06, 0x24, 0x5c, 0xc2, 0xd3, 0xac, 0x62, 0x91, 0x95, 0xe4, 0x79,
            0xe7, 0xc8, 0x37, 0x6d, 0x8d, 0xd5, 0x4e, 0xa9, 0x6c, 0x56, 0xf4, 0xea, 0x65, 0x7a, 0xae, 0x08,
            0xba, 0x78, 0x25, 0x2e, 0x1c, 0xa6, 0xb4, 0xc6, 0xe8, 0xdd, 0x74, 0x1f, 0x4b, 0xbd, 0x8b, 0x8a,
            0x70, 0x3e, 0xb5, 0x66, 0x48, 0x03, 0xf6, 0x0e, 0x61, 0x35, 0x57, 0xb9, 0x86, 0xc1, 0x1d, 0x9e,
            0xe1, 0xf8, 0x98, 0x11, 0x69, 0xd9, 0x8e, 0x94, 0x9b, 0x1e, 0x87, 0xe9, 0xce, 0x55, 0x28, 0xdf,
            0x8c, 0xa1, 0x89, 0x0d, 0xbf, 0xe6, 0x42, 0x68, 0x41, 0x99, 0x2d, 0x0f, 0xb0, 0x54, 0xbb, 0x16,
        };
        private static final int MOST_WORDS = 60;

        private final int[] schedule = new int[MOST_WORDS];
        private final int[] moved = new int[BLOCK_WORDS];
        private int rounds;

        /** Makes the words of a key, or of the key with its bytes turned round. */
        void expand(Bytes from, boolean turnedRound) {
            int w = from.size == 32 ? 8 : from.size == 24 ? 6 : 4;
            rounds = w + 6;
            for (int k = 0; k < w; k++) {
                schedule[k] = turnedRound ? bytesTurned(from.wordAt(w - 1 - k)) : from.wordAt(k);
            }
            int power = 1;
            for (int k = w; k < 4 * (rounds + 1); k++) {
                int t = schedule[k - 1];
                if (k % w == 0) {
                    t = substituted(rotated(t, 8)) ^ power << 24;
                    power = doubled(power);
                } else if (w == 8 && k % 8 == 4) {
                    t = substituted(t);
                }
                schedule[k] = schedule[k - w] ^ t;
            }
        }

        void encipher(int[] block) {
            for (int c = 0; c < BLOCK_WORDS; c++) {
                block[c] ^= schedule[c];
            }
            for (int round = 1; round <= rounds; round++) {
                for (int c = 0; c < BLOCK_WORDS; c++) {
                    moved[c] = substituted(diagonal(block, c));
                }
                for (int c = 0; c < BLOCK_WORDS; c++) {
                    block[c] = (round < rounds ? mixed(moved[c]) : moved[c]) ^ schedule[4 * round + c];
                }
            }
        }

        /** The four bytes that come where word c is. */
        private static int diagonal(int[] block, int c) {
            return block[c] & 0xff000000
                | block[(c + 1) % 4] & 0x00ff0000
                | block[(c + 2) % 4] & 0x0000ff00
                | block[(c + 3) % 4] & 0x000000ff;
        }

        private static int substituted(int word) {
            return S[word >>> 24] << 24
                | S[word >>> 16 & 0xff] << 16
                | S[word >>> 8 & 0xff] << 8
                | S[word & 0xff];
        }

        private static int mixed(int word) {
            int twice = doubled(word);
            return twice ^ rotated(twice ^ word, 8) ^ rotated(word, 16) ^ rotated(word, 24);
        }

        /** Each of the four bytes times 2, modulo [11b]. */
        private static int doubled(int word) {
            return (word & 0x7f7f7f7f) << 1 ^ (word >>> 7 & 0x01010101) * 0x1b;
        }

        private static int rotated(int word, int bits) {
            return word << bits | word >>> (32 - bits);
        }

        static int bytesTurned(int word) {
            return rotated(word, 8) & 0x00ff00ff | rotated(word, 24) & 0xff00ff00;
        }
    }

    /** What the two ways do differently; each has the block cipher with the key as that way wants it. */
    private abstract static class Way {
        final BlockCipher cipher = new BlockCipher();

        abstract int rounds();

        abstract int firstHalf(int n);

        abstract boolean lowestFirst();

        /** Whether a row that is long enough can be turned with a tweak. */
        abstract boolean takes(Row row, Bytes tweak, Natural scratch);

        /** Makes ready what is the same in all rounds. */
        abstract void begin(Row row, Bytes tweak, Natural scratch);

        /** Makes of one half's number what is added to the other half. */
        abstract void makeAddend(int round, Natural number);
    }

    /** FF1. */
    private static final class FirstWay extends Way {
        private static final int ROUNDS = 10;
        private static final int TWEAK_WORDS = TWEAK_LIMIT / 4;

        private final int[] tweakWords = new int[TWEAK_WORDS];
        private final int[] start = new int[BLOCK_WORDS];
        private final int[] chained = new int[BLOCK_WORDS];
        private final int[] spread = new int[BLOCK_WORDS];
        private int inputWords;
        private int roundPlace;
        private int addendWords;

        int rounds() {
            return ROUNDS;
        }

        int firstHalf(int n) {
            return n / 2;
        }

        boolean lowestFirst() {
            return false;
        }

        boolean takes(Row row, Bytes tweak, Natural scratch) {
            return true;
        }

        void begin(Row row, Bytes tweak, Natural scratch) {
            int u = firstHalf(row.size);
            int width = row.widthOf(row.size - u, scratch);
            addendWords = (width + 3) / 4 + 1;
            inputWords = (tweak.size + 1 + width + BLOCK_BYTES - 1) / BLOCK_BYTES * BLOCK_WORDS;
            roundPlace = 4 * inputWords - width - 1;
            for (int k = 0; k < TWEAK_WORDS; k++) {
                tweakWords[k] = tweak.wordAt(k);
            }
            /* The first block does not change with the round, so it is enciphered once for all ten. */
            start[0] = 0x01020100 | row.base >>> 16;
            start[1] = (row.base & 0xffff) << 16 | ROUNDS << 8 | u & 0xff;
            start[2] = row.size;
            start[3] = tweak.size;
            cipher.encipher(start);
        }

        void makeAddend(int round, Natural number) {
            chainInput(round, number);
            number.clear();
            System.arraycopy(chained, 0, spread, 0, BLOCK_WORDS);
            for (int k = 0; k < addendWords; k++) {
                if (k > 0 && k % BLOCK_WORDS == 0) {
                    System.arraycopy(chained, 0, spread, 0, BLOCK_WORDS);
                    spread[BLOCK_WORDS - 1] ^= k / BLOCK_WORDS;
                    cipher.encipher(spread);
                }
                number.putWord(addendWords - 1 - k, spread[k % BLOCK_WORDS]);
            }
        }

        private void chainInput(int round, Natural number) {
            System.arraycopy(start, 0, chained, 0, BLOCK_WORDS);
            for (int k = 0; k < inputWords; k++) {
                chained[k % BLOCK_WORDS] ^= inputWord(k, round, number);
                if (k % BLOCK_WORDS == BLOCK_WORDS - 1) {
                    cipher.encipher(chained);
                }
            }
        }

        /* Tweak, round and number may meet in one word, but never in one byte. */
        private int inputWord(int k, int round, Natural number) {
            int word = number.wordAt(inputWords - 1 - k);
            if (k < TWEAK_WORDS) {
                word |= tweakWords[k];
            }
            if (k == roundPlace / 4) {
                word |= round << (24 - 8 * (roundPlace % 4));
            }
            return word;
        }
    }

    /** FF3-1. */
    private static final class SecondWay extends Way {
        private static final int ROUNDS = 8;
        private static final int TWEAK_BYTES = 7;
        private static final int NUMBER_BYTES = 12;
        private static final int NUMBER_WORDS = 3;

        private final int[] turned = new int[BLOCK_WORDS];
        private int left;
        private int right;

        int rounds() {
            return ROUNDS;
        }

        int firstHalf(int n) {
            return n - n / 2;
        }

        boolean lowestFirst() {
            return true;
        }

        /* Radix to the u is 2 to the 96 at most just when the highest number of u numerals has 12 bytes at most. */
        boolean takes(Row row, Bytes tweak, Natural scratch) {
            return tweak.size == TWEAK_BYTES && row.widthOf(firstHalf(row.size), scratch) <= NUMBER_BYTES;
        }

        void begin(Row row, Bytes tweak, Natural scratch) {
            int head = tweak.wordAt(0);
            left = head & 0xfffffff0;
            right = tweak.wordAt(1) & 0xffffff00 | (head & 0x0f) << 4;
        }

        /* Turning round the bytes of a block turns round the words, which a number has lowest first already. */
        void makeAddend(int round, Natural number) {
            for (int k = 0; k < NUMBER_WORDS; k++) {
                turned[k] = BlockCipher.bytesTurned(number.wordAt(k));
            }
            turned[NUMBER_WORDS] = BlockCipher.bytesTurned((round % 2 == 0 ? right : left) ^ round);
            cipher.encipher(turned);
            number.clear();
            for (int k = 0; k < BLOCK_WORDS; k++) {
                number.putWord(k, BlockCipher.bytesTurned(turned[k]));
            }
        }
    }
}
