import java.util.function.IntSupplier;

/** Each promise by itself: ordinary inputs, the edges that the document names, and wrong inputs. */
public final class PromiseTests {
    private static final int ILLEGAL_ARGUMENT = -1001;
    private static final int ILLEGAL_STATE = -1002;
    private static final int OUT_OF_BOUNDS = -1003;
    private static final int UNSUPPORTED = -1004;
    private static final int DONE = 0;
    private static final int[] WRONG_WAYS = {-1, 2, 3, 256, Integer.MIN_VALUE, Integer.MAX_VALUE};

    private static int wrong = 0;

    public static void main(String[] args) {
        promise1NewObject();
        promise2Type();
        promise3Keep();
        promise4Typed();
        promise5Key();
        promise6Tweak();
        promise7Block();
        promise8Radix();
        promise9Numeral();
        promise10Cut();
        promise11Set();
        promise12At();
        promise13Can();
        promise13CanByTheSecondWay();
        promise14Turn();
        promise15Count();
        objectsAreApart();
        System.out.println(wrong == 0 ? "all answers are as due" : wrong + " answers are not as due");
        if (wrong != 0) {
            System.exit(1);
        }
    }

    /** The call's answer, or the code of just the exception class that it throws. */
    private static int answer(IntSupplier call) {
        try {
            return call.getAsInt();
        } catch (RuntimeException e) {
            if (e.getClass() == IllegalArgumentException.class) {
                return ILLEGAL_ARGUMENT;
            }
            if (e.getClass() == IllegalStateException.class) {
                return ILLEGAL_STATE;
            }
            if (e.getClass() == IndexOutOfBoundsException.class) {
                return OUT_OF_BOUNDS;
            }
            if (e.getClass() == UnsupportedOperationException.class) {
                return UNSUPPORTED;
            }
            throw e;
        }
    }

    private static int done(Runnable call) {
        return answer(() -> {
            call.run();
            return DONE;
        });
    }

    private static void due(String call, long got, long want) {
        if (got != want) {
            wrong++;
            System.out.println(call + " answered " + got + ", due is " + want);
        }
    }

    private static void dueState(String when, NumeralCipher x, String want) {
        String got = state(x);
        if (!got.equals(want)) {
            wrong++;
            System.out.println(when + ": the state is " + got + ", due is " + want);
        }
    }

    /** Row | radix | bytes of the key | bytes of the tweak | buffer. */
    private static String state(NumeralCipher x) {
        StringBuilder text = new StringBuilder();
        for (int i = 0; i < x.count(0); i++) {
            text.append(x.at(i)).append(' ');
        }
        text.append("| ").append(x.count(1)).append(" | ").append(x.count(2)).append(" | ").append(x.count(3)).append(" | ");
        for (int i = 0; i < x.count(4); i++) {
            text.append(String.format("%02x", x.typed(i)));
        }
        return text.toString();
    }

    private static void typeBytes(NumeralCipher x, int n) {
        for (int i = 0; i < n; i++) {
            x.type(i + 1, 1);
        }
    }

    private static void typeHex(NumeralCipher x, String hex) {
        for (int i = 0; i + 1 < hex.length(); i += 2) {
            x.type(Integer.parseInt(hex.substring(i, i + 2), 16), 1);
        }
    }

    private static void numerals(NumeralCipher x, int... values) {
        for (int v : values) {
            x.numeral(v);
        }
    }

    private static NumeralCipher zeros(int radix, int n) {
        NumeralCipher x = new NumeralCipher();
        x.radix(radix);
        numerals(x, new int[n]);
        return x;
    }

    private static int can(NumeralCipher x, int way) {
        return answer(() -> x.can(way) ? 1 : 0);
    }

    private static void promise1NewObject() {
        NumeralCipher x = new NumeralCipher();
        dueState("new", x, "| 10 | 16 | 0 | ");
        // FIPS 197's cipher of 16 bytes of 0 by 16 bytes of 0: the key is 0 at first.
        typeHex(x, "00000000000000000000000000000000");
        x.block();
        dueState("new, block", x, "| 10 | 16 | 0 | 66e94bd4ef8a2c3b884cfa59ca342b2e");
        due("numeral(9) in the first radix", answer(() -> x.numeral(9)), 1);
        due("numeral(10) in the first radix", answer(() -> x.numeral(10)), ILLEGAL_ARGUMENT);
    }

    private static void promise2Type() {
        NumeralCipher x = new NumeralCipher();
        due("type 3", answer(() -> x.type(0x1122334455667788L, 3)), 3);
        due("type 1", answer(() -> x.type(-1L, 1)), 4);
        due("type 8", answer(() -> x.type(0x8001020304050607L, 8)), 12);
        dueState("type", x, "| 10 | 16 | 0 | 667788ff8001020304050607");
        for (int n : new int[] {0, -1, 9, Integer.MIN_VALUE, Integer.MAX_VALUE}) {
            due("type " + n, answer(() -> x.type(5L, n)), ILLEGAL_ARGUMENT);
        }
        for (int k = 0; k < 6; k++) {
            x.type(0L, 8);
        }
        due("type to 60 bytes", x.count(4), 60);
        due("type beyond 64", answer(() -> x.type(1L, 5)), UNSUPPORTED);
        due("type beyond 64 leaves the buffer", x.count(4), 60);
        due("type to 64", answer(() -> x.type(0x01020304L, 4)), 64);
        due("type at 64", answer(() -> x.type(1L, 1)), UNSUPPORTED);
        due("type 0 at 64: the first named", answer(() -> x.type(1L, 0)), ILLEGAL_ARGUMENT);
        due("type 9 at 64: the first named", answer(() -> x.type(1L, 9)), ILLEGAL_ARGUMENT);
        due("the last byte", x.typed(63), 4);
    }

    private static void promise3Keep() {
        NumeralCipher x = new NumeralCipher();
        due("keep(0) of none", done(() -> x.keep(0)), DONE);
        due("keep(1) of none", done(() -> x.keep(1)), ILLEGAL_ARGUMENT);
        x.type(0x0a0b0c0d0eL, 5);
        due("keep(5)", done(() -> x.keep(5)), DONE);
        for (int n : new int[] {6, -1, Integer.MIN_VALUE, Integer.MAX_VALUE}) {
            due("keep " + n, done(() -> x.keep(n)), ILLEGAL_ARGUMENT);
        }
        dueState("keep all", x, "| 10 | 16 | 0 | 0a0b0c0d0e");
        due("keep(2)", done(() -> x.keep(2)), DONE);
        x.type(0xffL, 1);
        dueState("keep, type", x, "| 10 | 16 | 0 | 0a0bff");
        due("keep(0)", done(() -> x.keep(0)), DONE);
        dueState("keep none", x, "| 10 | 16 | 0 | ");
        // What is not kept is not part of a shorter tweak either: 7 bytes, then 2.
        x.type(0x01020304050607L, 7);
        x.keep(2);
        due("tweak of what is kept", x.tweak(), 2);
    }

    private static void promise4Typed() {
        NumeralCipher x = new NumeralCipher();
        due("typed(0) of none", answer(() -> x.typed(0)), OUT_OF_BOUNDS);
        x.type(0x80ff7f00L, 4);
        due("typed(0)", answer(() -> x.typed(0)), 0x80);
        due("typed(1)", answer(() -> x.typed(1)), 0xff);
        due("typed(2)", answer(() -> x.typed(2)), 0x7f);
        due("typed(3)", answer(() -> x.typed(3)), 0);
        for (int i : new int[] {4, -1, 63, 64, Integer.MIN_VALUE, Integer.MAX_VALUE}) {
            due("typed " + i, answer(() -> x.typed(i)), OUT_OF_BOUNDS);
        }
        x.keep(1);
        due("typed(1) of 1", answer(() -> x.typed(1)), OUT_OF_BOUNDS);
    }

    private static void promise5Key() {
        for (int n = 0; n <= 64; n++) {
            NumeralCipher x = new NumeralCipher();
            typeBytes(x, n);
            boolean right = n == 16 || n == 24 || n == 32;
            due("key of " + n, answer(x::key), right ? n / 4 + 6 : ILLEGAL_ARGUMENT);
            due("key of " + n + ": bytes", x.count(2), right ? n : 16);
            due("key of " + n + ": buffer", x.count(4), right ? 0 : n);
        }
        NumeralCipher x = new NumeralCipher();
        typeBytes(x, 32);
        x.key();
        typeHex(x, "2b7e151628aed2a6abf7158809cf4f3c");
        due("a shorter key behind a longer one", answer(x::key), 10);
        typeHex(x, "6bc1bee22e409f96e93d7e117393172a");
        x.block();
        dueState("the shorter key's block", x, "| 10 | 16 | 0 | 3ad77bb40d7a3660a89ecaf32466ef97");
    }

    private static void promise6Tweak() {
        for (int n = 0; n <= 64; n++) {
            NumeralCipher x = new NumeralCipher();
            typeBytes(x, 5);
            x.tweak();
            typeBytes(x, n);
            boolean right = n <= 32;
            due("tweak of " + n, answer(x::tweak), right ? n : ILLEGAL_ARGUMENT);
            due("tweak of " + n + ": bytes", x.count(3), right ? n : 5);
            due("tweak of " + n + ": buffer", x.count(4), right ? 0 : n);
        }
        // A shorter tweak behind a longer one works as if it were the first.
        NumeralCipher x = zeros(10, 20);
        NumeralCipher y = zeros(10, 20);
        typeBytes(x, 32);
        x.tweak();
        typeBytes(x, 3);
        x.tweak();
        typeBytes(y, 3);
        y.tweak();
        x.turn(0, false);
        y.turn(0, false);
        dueState("the shorter tweak's row", x, state(y));
    }

    private static void promise7Block() {
        NumeralCipher x = new NumeralCipher();
        for (int n = 0; n <= 64; n++) {
            if (n != 16) {
                due("block of " + n, done(x::block), ILLEGAL_ARGUMENT);
                due("block of " + n + ": buffer", x.count(4), n);
            }
            if (n < 64) {
                x.type(0L, 1);
            }
        }
        // FIPS 197, appendix C.
        String[] keys = {
            "000102030405060708090a0b0c0d0e0f",
            "000102030405060708090a0b0c0d0e0f1011121314151617",
            "000102030405060708090a0b0c0d0e0f101112131415161718191a1b1c1d1e1f"};
        String[] blocks = {
            "69c4e0d86a7b0430d8cdb78070b4c55a",
            "dda97ca4864cdfe06eaf70a0ec0d7191",
            "8ea2b7ca516745bfeafc49904b496089"};
        x.keep(0);
        for (int k = 0; k < keys.length; k++) {
            typeHex(x, keys[k]);
            x.key();
            typeHex(x, "00112233445566778899aabbccddeeff");
            due("block", done(x::block), DONE);
            dueState("block", x, "| 10 | " + keys[k].length() / 2 + " | 0 | " + blocks[k]);
            x.keep(0);
        }
    }

    private static void promise8Radix() {
        NumeralCipher x = new NumeralCipher();
        due("radix(10) of none", answer(() -> x.radix(10)), 0);
        numerals(x, 1, 2, 3);
        for (int r : new int[] {1, 0, -1, 65537, Integer.MIN_VALUE, Integer.MAX_VALUE}) {
            due("radix " + r, answer(() -> x.radix(r)), ILLEGAL_ARGUMENT);
        }
        dueState("wrong radices", x, "1 2 3 | 10 | 16 | 0 | ");
        due("the same radix", answer(() -> x.radix(10)), 3);
        dueState("the same radix", x, "| 10 | 16 | 0 | ");
        due("radix(2)", answer(() -> x.radix(2)), 0);
        due("numeral(1) of 2", answer(() -> x.numeral(1)), 1);
        due("numeral(2) of 2", answer(() -> x.numeral(2)), ILLEGAL_ARGUMENT);
        due("radix(65536)", answer(() -> x.radix(65536)), 1);
        due("numeral(65535)", answer(() -> x.numeral(65535)), 1);
        due("numeral(65536)", answer(() -> x.numeral(65536)), ILLEGAL_ARGUMENT);
        x.type(7L, 1);
        x.tweak();
        x.type(9L, 1);
        x.radix(3);
        dueState("radix leaves the bytes", x, "| 3 | 16 | 1 | 09");
    }

    private static void promise9Numeral() {
        NumeralCipher x = new NumeralCipher();
        for (int v : new int[] {-1, 10, Integer.MIN_VALUE, Integer.MAX_VALUE}) {
            due("numeral " + v, answer(() -> x.numeral(v)), ILLEGAL_ARGUMENT);
        }
        due("wrong numerals do not come", x.count(0), 0);
        for (int k = 0; k < 64; k++) {
            int v = k % 10;
            due("numeral " + k, answer(() -> x.numeral(v)), k + 1);
        }
        due("numeral 65", answer(() -> x.numeral(0)), UNSUPPORTED);
        due("numeral 65, wrong too: the first named", answer(() -> x.numeral(10)), ILLEGAL_ARGUMENT);
        due("numeral 65, below 0 too: the first named", answer(() -> x.numeral(-1)), ILLEGAL_ARGUMENT);
        due("numerals", x.count(0), 64);
        due("the first", x.at(0), 0);
        due("the last", x.at(63), 3);
    }

    private static void promise10Cut() {
        NumeralCipher x = new NumeralCipher();
        due("cut(0) of none", done(() -> x.cut(0)), DONE);
        due("cut(1) of none", done(() -> x.cut(1)), ILLEGAL_ARGUMENT);
        numerals(x, 4, 5, 6);
        for (int n : new int[] {4, -1, Integer.MIN_VALUE, Integer.MAX_VALUE}) {
            due("cut " + n, done(() -> x.cut(n)), ILLEGAL_ARGUMENT);
        }
        due("cut(3)", done(() -> x.cut(3)), DONE);
        dueState("cut(3)", x, "4 5 6 | 10 | 16 | 0 | ");
        due("cut(1)", done(() -> x.cut(1)), DONE);
        dueState("cut(1)", x, "4 | 10 | 16 | 0 | ");
        due("numeral behind a cut", answer(() -> x.numeral(9)), 2);
        dueState("numeral behind a cut", x, "4 9 | 10 | 16 | 0 | ");
        due("cut(0)", done(() -> x.cut(0)), DONE);
        dueState("cut(0)", x, "| 10 | 16 | 0 | ");
    }

    private static void promise11Set() {
        NumeralCipher x = new NumeralCipher();
        due("set of none", answer(() -> x.set(0, 1)), OUT_OF_BOUNDS);
        numerals(x, 4, 5, 6);
        due("set(0, 9)", answer(() -> x.set(0, 9)), 4);
        due("set(2, 0)", answer(() -> x.set(2, 0)), 6);
        due("set(2, 1)", answer(() -> x.set(2, 1)), 0);
        for (int i : new int[] {-1, 3, 63, 64, Integer.MIN_VALUE, Integer.MAX_VALUE}) {
            due("set at " + i, answer(() -> x.set(i, 1)), OUT_OF_BOUNDS);
            due("set at " + i + ", wrong too: the first named", answer(() -> x.set(i, 10)), OUT_OF_BOUNDS);
        }
        for (int v : new int[] {-1, 10, Integer.MIN_VALUE, Integer.MAX_VALUE}) {
            due("set to " + v, answer(() -> x.set(1, v)), ILLEGAL_ARGUMENT);
        }
        dueState("set", x, "9 5 1 | 10 | 16 | 0 | ");
    }

    private static void promise12At() {
        NumeralCipher x = new NumeralCipher();
        due("at(0) of none", answer(() -> x.at(0)), OUT_OF_BOUNDS);
        numerals(x, 7, 8);
        due("at(0)", answer(() -> x.at(0)), 7);
        due("at(1)", answer(() -> x.at(1)), 8);
        for (int i : new int[] {-1, 2, 63, 64, Integer.MIN_VALUE, Integer.MAX_VALUE}) {
            due("at " + i, answer(() -> x.at(i)), OUT_OF_BOUNDS);
        }
        x.cut(1);
        due("at(1) of 1", answer(() -> x.at(1)), OUT_OF_BOUNDS);
        x.radix(10);
        due("at(0) behind radix", answer(() -> x.at(0)), OUT_OF_BOUNDS);
    }

    private static void promise13Can() {
        for (int way : WRONG_WAYS) {
            due("can " + way, can(new NumeralCipher(), way), ILLEGAL_ARGUMENT);
            due("can " + way, can(zeros(10, 10), way), ILLEGAL_ARGUMENT);
        }
        due("no row", can(new NumeralCipher(), 0), 0);
        due("10 to the 5", can(zeros(10, 5), 0), 0);
        due("10 to the 6", can(zeros(10, 6), 0), 1);
        due("2 to the 19", can(zeros(2, 19), 0), 0);
        due("2 to the 20", can(zeros(2, 20), 0), 1);
        due("999 to the 2", can(zeros(999, 2), 0), 0);
        due("1000 to the 2", can(zeros(1000, 2), 0), 1);
        due("99 to the 3", can(zeros(99, 3), 0), 0);
        due("100 to the 3", can(zeros(100, 3), 0), 1);
        due("one numeral", can(zeros(65536, 1), 0), 0);
        due("65536 to the 2", can(zeros(65536, 2), 0), 1);
        due("65536 to the 64", can(zeros(65536, 64), 0), 1);
        due("2 to the 64", can(zeros(2, 64), 0), 1);
        // The tweak's length means nothing to way 0.
        for (int n = 0; n <= 32; n++) {
            NumeralCipher x = zeros(10, 6);
            typeBytes(x, n);
            x.tweak();
            due("way 0 with a tweak of " + n, can(x, 0), 1);
            due("way 1 with a tweak of " + n, can(x, 1), n == 7 ? 1 : 0);
        }
    }

    private static int canBySecondWay(int radix, int n) {
        NumeralCipher x = zeros(radix, n);
        typeBytes(x, 7);
        x.tweak();
        String before = state(x);
        int answer = can(x, 1);
        dueState("can changes nothing", x, before);
        return answer;
    }

    private static void promise13CanByTheSecondWay() {
        due("10 to the 5", canBySecondWay(10, 5), 0);
        due("10 to the 6", canBySecondWay(10, 6), 1);
        due("one numeral", canBySecondWay(65536, 1), 0);
        due("u 28 of radix 10", canBySecondWay(10, 56), 1);
        due("u 29 of radix 10, n odd", canBySecondWay(10, 57), 0);
        due("u 32 of radix 2", canBySecondWay(2, 64), 1);
        due("8 to the 32 is 2 to the 96", canBySecondWay(8, 64), 1);
        due("9 to the 32", canBySecondWay(9, 64), 0);
        due("9 to the 30", canBySecondWay(9, 60), 1);
        due("9 to the 31", canBySecondWay(9, 61), 0);
        due("256 to the 12", canBySecondWay(256, 24), 1);
        due("256 to the 13", canBySecondWay(256, 25), 0);
        due("257 to the 12", canBySecondWay(257, 24), 0);
        due("257 to the 11", canBySecondWay(257, 22), 1);
        due("65536 to the 6", canBySecondWay(65536, 12), 1);
        due("65536 to the 6, n odd", canBySecondWay(65536, 11), 1);
        due("65536 to the 7", canBySecondWay(65536, 13), 0);
        due("65536 to the 32", canBySecondWay(65536, 64), 0);
        due("65535 to the 6", canBySecondWay(65535, 12), 1);
        due("65535 to the 7", canBySecondWay(65535, 13), 0);
    }

    private static void promise14Turn() {
        for (boolean back : new boolean[] {false, true}) {
            for (int way : WRONG_WAYS) {
                due("turn " + way, done(() -> new NumeralCipher().turn(way, back)), ILLEGAL_ARGUMENT);
                due("turn " + way, done(() -> zeros(10, 10).turn(way, back)), ILLEGAL_ARGUMENT);
            }
            NumeralCipher x = zeros(10, 5);
            due("turn of 5", done(() -> x.turn(0, back)), ILLEGAL_STATE);
            due("turn of 5", done(() -> x.turn(1, back)), ILLEGAL_STATE);
            dueState("turn of 5", x, "0 0 0 0 0 | 10 | 16 | 0 | ");
            x.numeral(3);
            due("turn without 7 bytes", done(() -> x.turn(1, back)), ILLEGAL_STATE);
            dueState("turn without 7 bytes", x, "0 0 0 0 0 3 | 10 | 16 | 0 | ");
            x.type(0x01020304050607L, 7);
            x.tweak();
            x.type(0x0dL, 1);
            for (int way = 0; way < 2; way++) {
                int w = way;
                due("turn", done(() -> x.turn(w, back)), DONE);
                due("turn and turn the other way", done(() -> x.turn(w, !back)), DONE);
                dueState("turn and back", x, "0 0 0 0 0 3 | 10 | 16 | 7 | 0d");
            }
            x.cut(0);
            due("turn of none", done(() -> x.turn(0, back)), ILLEGAL_STATE);
        }
        // A key that comes between turns counts at once, by both ways.
        for (int way = 0; way < 2; way++) {
            NumeralCipher x = zeros(10, 12);
            NumeralCipher y = zeros(10, 12);
            x.type(0x01020304050607L, 7);
            x.tweak();
            y.type(0x01020304050607L, 7);
            y.tweak();
            x.turn(way, false);
            x.turn(way, true);
            typeBytes(x, 24);
            x.key();
            typeBytes(y, 24);
            y.key();
            x.turn(way, false);
            y.turn(way, false);
            dueState("a key between turns", x, state(y));
        }
    }

    private static void promise15Count() {
        NumeralCipher x = new NumeralCipher();
        for (int what : new int[] {-1, 5, 6, Integer.MIN_VALUE, Integer.MAX_VALUE}) {
            due("count " + what, answer(() -> x.count(what)), OUT_OF_BOUNDS);
        }
        typeBytes(x, 24);
        x.key();
        typeBytes(x, 9);
        x.tweak();
        typeBytes(x, 11);
        x.radix(300);
        numerals(x, 299, 0);
        due("count(0)", answer(() -> x.count(0)), 2);
        due("count(1)", answer(() -> x.count(1)), 300);
        due("count(2)", answer(() -> x.count(2)), 24);
        due("count(3)", answer(() -> x.count(3)), 9);
        due("count(4)", answer(() -> x.count(4)), 11);
    }

    private static void objectsAreApart() {
        NumeralCipher x = new NumeralCipher();
        NumeralCipher y = new NumeralCipher();
        typeBytes(x, 32);
        x.key();
        typeBytes(x, 4);
        x.tweak();
        x.type(1L, 1);
        x.radix(7);
        x.numeral(6);
        dueState("another object", y, "| 10 | 16 | 0 | ");
    }
}
