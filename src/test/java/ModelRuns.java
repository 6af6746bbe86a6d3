import java.io.ByteArrayOutputStream;
import java.math.BigInteger;
import java.util.ArrayList;
import java.util.Arrays;
import java.util.List;
import java.util.Random;
import javax.crypto.Cipher;
import javax.crypto.spec.SecretKeySpec;

/** Runs of calls by chance (always the same ones), each answer compared with that of a plainer program. */
public final class ModelRuns {
    private static final int MIXED_RUNS = 2000;
    /* The document promises nothing about an object after its 512th call. */
    private static final int MOST_CALLS = 512;
    private static final int MOST_CALLS_OF_A_STATE = 5 + 65 + 65;
    private static final int[] RADICES = {2, 3, 8, 9, 10, 16, 26, 36, 99, 100, 255, 256, 257, 999, 1000, 4096, 65535, 65536};

    private static int wrong = 0;

    public static void main(String[] args) throws Exception {
        for (int run = 0; run < MIXED_RUNS && wrong < 20; run++) {
            mixedRun(run);
        }
        everyLength();
        everyLengthOfTweak();
        everyByteOfASecondWaysTweak();
        widestHalvesByTheSecondWay();
        shortestRows();
        longestRows();
        System.out.println(wrong == 0 ? "all answers are as due" : wrong + " answers are not as due");
        if (wrong != 0) {
            System.exit(1);
        }
    }

    /** The document's words over BigInteger and the JDK's AES. */
    private static final class Model {
        byte[] buffer = new byte[0];
        byte[] key = new byte[16];
        byte[] tweak = new byte[0];
        int radix = 10;
        List<Integer> row = new ArrayList<>();

        long type(long bytes, int n) {
            require(n >= 1 && n <= 8, new IllegalArgumentException());
            require(buffer.length + n <= 64, new UnsupportedOperationException());
            byte[] eight = BigInteger.valueOf(bytes).and(BigInteger.ONE.shiftLeft(64).subtract(BigInteger.ONE)).toByteArray();
            byte[] wide = new byte[9];
            System.arraycopy(eight, 0, wide, 9 - eight.length, eight.length);
            buffer = join(buffer, Arrays.copyOfRange(wide, 9 - n, 9));
            return buffer.length;
        }

        long keep(int n) {
            require(n >= 0 && n <= buffer.length, new IllegalArgumentException());
            buffer = Arrays.copyOf(buffer, n);
            return 0;
        }

        long typed(int i) {
            require(i >= 0 && i < buffer.length, new IndexOutOfBoundsException());
            return buffer[i] & 255;
        }

        long key() {
            require(buffer.length == 16 || buffer.length == 24 || buffer.length == 32, new IllegalArgumentException());
            key = buffer;
            buffer = new byte[0];
            return key.length / 4 + 6;
        }

        long tweak() {
            require(buffer.length <= 32, new IllegalArgumentException());
            tweak = buffer;
            buffer = new byte[0];
            return tweak.length;
        }

        long block() throws Exception {
            require(buffer.length == 16, new IllegalArgumentException());
            buffer = enciphered(key, buffer);
            return 0;
        }

        long radix(int r) {
            require(r >= 2 && r <= 65536, new IllegalArgumentException());
            int had = row.size();
            radix = r;
            row.clear();
            return had;
        }

        long numeral(int v) {
            require(v >= 0 && v < radix, new IllegalArgumentException());
            require(row.size() < 64, new UnsupportedOperationException());
            row.add(v);
            return row.size();
        }

        long cut(int n) {
            require(n >= 0 && n <= row.size(), new IllegalArgumentException());
            row = new ArrayList<>(row.subList(0, n));
            return 0;
        }

        long set(int i, int v) {
            require(i >= 0 && i < row.size(), new IndexOutOfBoundsException());
            require(v >= 0 && v < radix, new IllegalArgumentException());
            return row.set(i, v);
        }

        long at(int i) {
            require(i >= 0 && i < row.size(), new IndexOutOfBoundsException());
            return row.get(i);
        }

        boolean can(int way) {
            require(way == 0 || way == 1, new IllegalArgumentException());
            int n = row.size();
            if (n < 2 || power(n).compareTo(BigInteger.valueOf(1000000)) < 0) {
                return false;
            }
            return way == 0 || tweak.length == 7 && power((n + 1) / 2).compareTo(BigInteger.ONE.shiftLeft(96)) <= 0;
        }

        long turn(int way, boolean back) throws Exception {
            require(way == 0 || way == 1, new IllegalArgumentException());
            require(can(way), new IllegalStateException());
            int n = row.size();
            int u = way == 0 ? n / 2 : (n + 1) / 2;
            int v = n - u;
            List<Integer> a = new ArrayList<>(row.subList(0, u));
            List<Integer> b = new ArrayList<>(row.subList(u, n));
            int rounds = way == 0 ? 10 : 8;
            for (int k = 0; k < rounds; k++) {
                int i = back ? rounds - 1 - k : k;
                List<Integer> other = back ? a : b;
                BigInteger y = way == 0 ? firstY(i, u, v, other) : secondY(i, other);
                BigInteger modulus = power(i % 2 == 0 ? u : v);
                BigInteger old = number(back ? b : a, way);
                List<Integer> c = numerals((back ? old.subtract(y) : old.add(y)).mod(modulus), i % 2 == 0 ? u : v, way);
                if (back) {
                    b = a;
                    a = c;
                } else {
                    a = b;
                    b = c;
                }
            }
            row = new ArrayList<>(a);
            row.addAll(b);
            return 0;
        }

        long count(int what) {
            require(what >= 0 && what < 5, new IndexOutOfBoundsException());
            return new int[] {row.size(), radix, key.length, tweak.length, buffer.length}[what];
        }

        private BigInteger firstY(int i, int u, int v, List<Integer> other) throws Exception {
            int bytes = (power(v).subtract(BigInteger.ONE).bitLength() + 7) / 8;
            int d = 4 * ((bytes + 3) / 4) + 4;
            byte[] first = join(new byte[] {1, 2, 1}, fixed(BigInteger.valueOf(radix), 3), new byte[] {10, (byte) u},
                fixed(BigInteger.valueOf(row.size()), 4), fixed(BigInteger.valueOf(tweak.length), 4));
            int zeros = 0;
            while ((tweak.length + zeros + 1 + bytes) % 16 != 0) {
                zeros++;
            }
            byte[] all = join(first, tweak, new byte[zeros], new byte[] {(byte) i}, fixed(number(other, 0), bytes));
            byte[] r = new byte[16];
            for (int k = 0; k < all.length; k += 16) {
                r = enciphered(key, xor(r, Arrays.copyOfRange(all, k, k + 16)));
            }
            byte[] s = r;
            for (int j = 1; s.length < d; j++) {
                s = join(s, enciphered(key, xor(r, fixed(BigInteger.valueOf(j), 16))));
            }
            return new BigInteger(1, Arrays.copyOf(s, d));
        }

        private BigInteger secondY(int i, List<Integer> other) throws Exception {
            byte[] side = i % 2 == 0
                ? new byte[] {tweak[4], tweak[5], tweak[6], (byte) (tweak[3] << 4)}
                : new byte[] {tweak[0], tweak[1], tweak[2], (byte) (tweak[3] & 0xf0)};
            side[3] ^= (byte) i;
            byte[] p = join(side, fixed(number(other, 1), 12));
            return new BigInteger(1, turnedRound(enciphered(turnedRound(key), turnedRound(p))));
        }

        private BigInteger power(int n) {
            return BigInteger.valueOf(radix).pow(n);
        }

        private BigInteger number(List<Integer> numerals, int way) {
            BigInteger sum = BigInteger.ZERO;
            for (int k = 0; k < numerals.size(); k++) {
                int exponent = way == 0 ? numerals.size() - 1 - k : k;
                sum = sum.add(power(exponent).multiply(BigInteger.valueOf(numerals.get(k))));
            }
            return sum;
        }

        private List<Integer> numerals(BigInteger number, int m, int way) {
            List<Integer> answer = new ArrayList<>();
            for (int k = 0; k < m; k++) {
                int v = number.divide(power(k)).mod(BigInteger.valueOf(radix)).intValue();
                answer.add(way == 0 ? 0 : answer.size(), v);
            }
            return answer;
        }

        private static void require(boolean holds, RuntimeException otherwise) {
            if (!holds) {
                throw otherwise;
            }
        }

        private static byte[] enciphered(byte[] key, byte[] block) throws Exception {
            Cipher cipher = Cipher.getInstance("AES/ECB/NoPadding");
            cipher.init(Cipher.ENCRYPT_MODE, new SecretKeySpec(key, "AES"));
            return cipher.doFinal(block);
        }

        private static byte[] fixed(BigInteger number, int bytes) {
            byte[] answer = new byte[bytes];
            for (int k = 0; k < bytes; k++) {
                answer[bytes - 1 - k] = number.shiftRight(8 * k).byteValue();
            }
            return answer;
        }

        private static byte[] join(byte[]... parts) {
            ByteArrayOutputStream out = new ByteArrayOutputStream();
            for (byte[] part : parts) {
                out.write(part, 0, part.length);
            }
            return out.toByteArray();
        }

        private static byte[] xor(byte[] a, byte[] b) {
            byte[] answer = new byte[a.length];
            for (int k = 0; k < a.length; k++) {
                answer[k] = (byte) (a[k] ^ b[k]);
            }
            return answer;
        }

        private static byte[] turnedRound(byte[] bytes) {
            byte[] answer = new byte[bytes.length];
            for (int k = 0; k < bytes.length; k++) {
                answer[bytes.length - 1 - k] = bytes[k];
            }
            return answer;
        }
    }

    private interface Call {
        long answer() throws Exception;
    }

    private static String told(Call call) {
        try {
            return String.valueOf(call.answer());
        } catch (Exception e) {
            return "throws." + e.getClass().getSimpleName();
        }
    }

    private static void same(String what, Call call, Call model) {
        String got = told(call);
        String want = told(model);
        if (!got.equals(want)) {
            wrong++;
            System.out.println(what + " answered " + got + ", due is " + want);
        }
    }

    private static void sameState(String what, NumeralCipher x, Model m) {
        for (int k = 0; k < 5; k++) {
            int i = k;
            same(what + ": count(" + k + ")", () -> x.count(i), () -> m.count(i));
        }
        for (int k = 0; k <= m.row.size(); k++) {
            int i = k;
            same(what + ": at(" + k + ")", () -> x.at(i), () -> m.at(i));
        }
        for (int k = 0; k <= m.buffer.length; k++) {
            int i = k;
            same(what + ": typed(" + k + ")", () -> x.typed(i), () -> m.typed(i));
        }
    }

    private static int near(Random random, int bound) {
        switch (random.nextInt(20)) {
            case 0:
                return -1;
            case 1:
                return bound;
            case 2:
                return random.nextInt();
            case 3:
                return Integer.MIN_VALUE;
            case 4:
                return Integer.MAX_VALUE;
            case 5:
                return bound - 1;
            default:
                return random.nextInt(Math.max(bound, 1));
        }
    }

    /** A run of single calls of all kinds, with wrong ones among them; then the whole state is compared. */
    private static void mixedRun(int run) {
        Random random = new Random(run);
        NumeralCipher x = new NumeralCipher();
        Model m = new Model();
        int calls = run % (MOST_CALLS - MOST_CALLS_OF_A_STATE + 1);
        int turns = 0;
        for (int call = 0; call < calls && wrong <= 20; call++) {
            int kind = random.nextInt(40);
            if (kind >= 38 && turns++ > 30) {
                kind = 0;
            }
            oneCall("run " + run + ", call " + call, kind, random, x, m);
        }
        sameState("run " + run + ", at the end", x, m);
    }

    private static void oneCall(String what, int kind, Random random, NumeralCipher x, Model m) {
        if (kind < 5) {
            long bytes = random.nextLong();
            int n = random.nextBoolean() ? 8 : near(random, 9);
            same(what + " type(" + bytes + ", " + n + ")", () -> x.type(bytes, n), () -> m.type(bytes, n));
        } else if (kind < 18) {
            int v = near(random, m.radix);
            same(what + " numeral(" + v + ")", () -> x.numeral(v), () -> m.numeral(v));
        } else if (kind < 20) {
            int i = near(random, m.row.size());
            int v = near(random, m.radix);
            same(what + " set(" + i + ", " + v + ")", () -> x.set(i, v), () -> m.set(i, v));
        } else if (kind == 20) {
            int n = random.nextBoolean() ? 7 : near(random, m.buffer.length + 1);
            same(what + " keep(" + n + ")", () -> { x.keep(n); return 0; }, () -> m.keep(n));
        } else if (kind == 21) {
            same(what + " key()", () -> x.key(), () -> m.key());
        } else if (kind == 22) {
            same(what + " tweak()", () -> x.tweak(), () -> m.tweak());
        } else if (kind == 23) {
            same(what + " block()", () -> { x.block(); return 0; }, () -> m.block());
        } else if (kind == 24) {
            int r = random.nextInt(4) > 0 ? RADICES[random.nextInt(RADICES.length)] : near(random, 65537);
            if (random.nextInt(3) == 0) {
                same(what + " radix(" + r + ")", () -> x.radix(r), () -> m.radix(r));
            }
        } else if (kind == 25) {
            int n = near(random, m.row.size() + 1);
            if (random.nextInt(3) == 0) {
                same(what + " cut(" + n + ")", () -> { x.cut(n); return 0; }, () -> m.cut(n));
            }
        } else {
            readOrTurn(what, kind, random, x, m);
        }
    }

    private static void readOrTurn(String what, int kind, Random random, NumeralCipher x, Model m) {
        if (kind < 29) {
            int i = near(random, m.row.size());
            same(what + " at(" + i + ")", () -> x.at(i), () -> m.at(i));
        } else if (kind < 32) {
            int i = near(random, m.buffer.length);
            same(what + " typed(" + i + ")", () -> x.typed(i), () -> m.typed(i));
        } else if (kind < 34) {
            int i = near(random, 5);
            same(what + " count(" + i + ")", () -> x.count(i), () -> m.count(i));
        } else if (kind < 38) {
            int way = near(random, 2);
            same(what + " can(" + way + ")", () -> x.can(way) ? 1 : 0, () -> m.can(way) ? 1 : 0);
        } else {
            int way = near(random, 2);
            boolean back = random.nextBoolean();
            same(what + " turn(" + way + ", " + back + ")", () -> { x.turn(way, back); return 0; }, () -> m.turn(way, back));
        }
    }

    /** Every length of a row in every radix of the list, by both ways, forth and back. */
    private static void everyLength() {
        Random random = new Random(4711);
        for (int radix : RADICES) {
            for (int n = 0; n <= 64; n++) {
                byte[] tweak = new byte[random.nextBoolean() ? 7 : random.nextInt(33)];
                random.nextBytes(tweak);
                oneRow("row", random.nextInt(9), tweak, radix, n);
            }
        }
    }

    private static void type(Random random, int n, NumeralCipher x, Model m) {
        for (int k = 0; k < n; k++) {
            long b = random.nextLong();
            same("type", () -> x.type(b, 1), () -> m.type(b, 1));
        }
    }

    /** A row of lowest, of highest and of other numerals, by a key of each length. */
    private static void edge(String what, byte[] tweak, int radix, int n) {
        for (int sort = 0; sort < 9; sort++) {
            oneRow(what, sort, tweak, radix, n);
        }
    }

    private static void oneRow(String what, int sort, byte[] tweak, int radix, int n) {
        for (int way = 0; way < 2; way++) {
            int keyLength = 16 + 8 * (sort / 3);
            Random random = new Random(31 * n + sort);
            NumeralCipher x = new NumeralCipher();
            Model m = new Model();
            type(random, keyLength, x, m);
            same("key", () -> x.key(), () -> m.key());
            for (byte b : tweak) {
                same("type", () -> x.type(b, 1), () -> m.type(b, 1));
            }
            same("tweak", () -> x.tweak(), () -> m.tweak());
            same("radix", () -> x.radix(radix), () -> m.radix(radix));
            for (int place = 0; place < n; place++) {
                int v = sort % 3 == 0 ? 0 : sort % 3 == 1 ? radix - 1 : random.nextInt(radix);
                same("numeral", () -> x.numeral(v), () -> m.numeral(v));
            }
            everyTurn(what + ", radix " + radix + ", " + n + " numerals, key of " + keyLength
                + ", tweak of " + tweak.length, way, x, m);
        }
    }

    private static byte[] bytes(int n, int each) {
        byte[] answer = new byte[n];
        Arrays.fill(answer, (byte) each);
        return answer;
    }

    /** Way 0 puts 0 to 15 bytes of 0 between the tweak and the round, so every length of a tweak counts. */
    private static void everyLengthOfTweak() {
        for (int n = 0; n <= 32; n++) {
            edge("tweak of " + n, bytes(n, 0xff), 10, 6);
            edge("tweak of " + n, bytes(n, 0xa5), 256, 9);
            edge("tweak of " + n, bytes(n, 0x01), 65536, 64);
        }
    }

    /** Way 1 parts the tweak in the middle of its fourth byte. */
    private static void everyByteOfASecondWaysTweak() {
        for (int place = 0; place < 7; place++) {
            for (int b : new int[] {0x01, 0x0f, 0x10, 0x80, 0xf0, 0xff}) {
                byte[] tweak = new byte[7];
                tweak[place] = (byte) b;
                edge("tweak with byte " + place + " " + b, tweak, 10, 7);
            }
        }
    }

    /** Radix to the u is just 2 to the 96, or the most below it; and one numeral more. */
    private static void widestHalvesByTheSecondWay() {
        int[][] widest = {{2, 64}, {8, 64}, {9, 60}, {10, 56}, {16, 48}, {64, 32}, {256, 24}, {257, 22}, {4096, 16},
            {65535, 12}, {65536, 12}};
        for (int[] row : widest) {
            edge("widest by way 1", bytes(7, 0xff), row[0], row[1]);
            edge("widest by way 1, odd", bytes(7, 0xff), row[0], row[1] - 1);
            if (row[1] < 64) {
                edge("too wide by way 1", bytes(7, 0xff), row[0], row[1] + 1);
            }
        }
    }

    /** Radix to the n is just 1000000, or the least above it; and one numeral less. */
    private static void shortestRows() {
        int[][] shortest = {{2, 20}, {3, 13}, {10, 6}, {15, 6}, {16, 5}, {31, 5}, {32, 4}, {99, 4}, {100, 3}, {999, 3},
            {1000, 2}, {65535, 2}, {65536, 2}};
        for (int[] row : shortest) {
            edge("shortest", bytes(7, 0x3c), row[0], row[1]);
            edge("too short", bytes(7, 0x3c), row[0], row[1] - 1);
        }
    }

    private static void longestRows() {
        for (int radix : RADICES) {
            edge("longest", bytes(0, 0), radix, 64);
            edge("longest", bytes(32, 0xff), radix, 64);
            edge("longest but one", bytes(32, 0xff), radix, 63);
        }
    }

    private static void everyTurn(String what, int way, NumeralCipher x, Model m) {
        same(what + ", can " + way, () -> x.can(way) ? 1 : 0, () -> m.can(way) ? 1 : 0);
        for (boolean back : new boolean[] {false, true, true, false}) {
            same(what + ", turn " + way, () -> { x.turn(way, back); return 0; }, () -> m.turn(way, back));
            sameState(what + ", turned by " + way + (back ? " back" : ""), x, m);
        }
    }
}
