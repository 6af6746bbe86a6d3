import java.math.BigInteger;
import java.util.Arrays;
import java.util.function.Consumer;
import java.util.function.Function;
import java.util.function.Supplier;

/**
 * The boundary cases, a test for each sentence of the document that names one: the last value that is taken and
 * the first that is refused on either side, the empty and the full buffer and row, and that a refused call throws
 * what the document names and changes nothing.
 */
public final class BoundaryTests {
    private static final Class<? extends RuntimeException> ARGUMENT = IllegalArgumentException.class;
    private static final Class<? extends RuntimeException> STATE = IllegalStateException.class;
    private static final Class<? extends RuntimeException> INDEX = IndexOutOfBoundsException.class;
    private static final Class<? extends RuntimeException> UNSUPPORTED = UnsupportedOperationException.class;

    private static final int MIN = Integer.MIN_VALUE;
    private static final int MAX = Integer.MAX_VALUE;
    private static final int[] RADICES = {2, 3, 10, 255, 256, 257, 65535, 65536};
    private static final int[] KEY_LENGTHS = {16, 24, 32};

    private static int wrong = 0;

    public static void main(String[] args) {
        aNewObject();
        theBuffer();
        theKeyAndTheTweak();
        theBlock();
        theRow();
        theWays();
        theCounts();
        theLastCall();
        System.out.println(wrong == 0 ? "all answers are as due" : wrong + " answers are not as due");
        if (wrong != 0) {
            System.exit(1);
        }
    }

    private static void aNewObject() {
        newHasTheCountsOfTheDocument();
        newHasAKeyOf16ZeroBytes();
        newHasNoTweak();
        newHasRadix10();
        newHasNothingInRowAndBuffer();
    }

    private static void theBuffer() {
        typeTakesTheLowestBytesHighestFirst();
        typeTakes1To8();
        typeTakesNoMoreThan64();
        typeNamesTheArgumentFirst();
        keepTakes0ToAll();
        keepForgetsTheOthers();
        typedTakesTheFirstToTheLast();
        typedAnswersEveryByte();
    }

    private static void theKeyAndTheTweak() {
        keyTakes16And24And32();
        keyEmptiesTheBuffer();
        keyIsNotTheBufferAnyMore();
        keyAnswersItsRounds();
        keyCountsForAllItsBytes();
        tweakTakes0To32();
        tweakEmptiesTheBuffer();
        tweakIsNotTheBufferAnyMore();
        tweakOfNoneReplacesALongOne();
        tweakCountsForAllItsBytes();
    }

    private static void theBlock() {
        blockTakes16();
        blockChangesTheBufferAlone();
        blockOfLowestAndHighestBytes();
    }

    private static void theRow() {
        radixTakes2To65536();
        radixEmptiesTheRow();
        radixAlikeEmptiesTheRow();
        numeralTakes0ToRadixLess1();
        numeralTakesNoMoreThan64();
        numeralNamesTheArgumentFirst();
        numeralGoesByTheLastRadix();
        cutTakes0ToAll();
        cutForgetsTheOthers();
        setTakesTheFirstToTheLast();
        setTakes0ToRadixLess1();
        setNamesTheIndexFirst();
        atTakesTheFirstToTheLast();
    }

    private static void theWays() {
        canTakesWays0And1();
        canWants2Numerals();
        canWants1000000RowsInEveryRadix();
        canWantsATweakOf7ByWay1();
        canWantsANumberOf96BitsByWay1();
        canChangesNothing();
        turnTakesWays0And1();
        turnNamesTheArgumentFirst();
        turnRefusesAShortRow();
        turnRefusesATweakNotOf7ByWay1();
        turnRefusesALongHalfByWay1();
        turnTakesJustWhatCanBeTurned();
        turnChangesTheRowAlone();
    }

    private static void theCounts() {
        countTakes0To4();
        countOfTheEmptiest();
        countOfTheFullest();
    }

    // ---- what the tests are made of

    private static void due(String what, Object got, Object want) {
        if (!got.equals(want)) {
            wrong++;
            System.out.println(what + " answered " + got + ", due is " + want);
        }
    }

    /** What a call answers, or the name of just the class that it throws. */
    private static String told(NumeralCipher x, Function<NumeralCipher, Object> call) {
        try {
            return String.valueOf(call.apply(x));
        } catch (RuntimeException e) {
            return "throws " + e.getClass().getName();
        }
    }

    private static Function<NumeralCipher, Object> bare(Consumer<NumeralCipher> call) {
        return x -> {
            call.accept(x);
            return "done";
        };
    }

    /** The call throws just that class, and the object then does all that one without the call does. */
    private static void refused(String what, Class<? extends RuntimeException> thrown, Supplier<NumeralCipher> maker,
            Function<NumeralCipher, Object> call) {
        NumeralCipher x = maker.get();
        due(what, told(x, call), "throws " + thrown.getName());
        due(what + ", then all", everything(x), everything(maker.get()));
    }

    /** The call answers that, and the object then does all that the one due does. */
    private static void taken(String what, Object answer, Supplier<NumeralCipher> maker,
            Function<NumeralCipher, Object> call, Supplier<NumeralCipher> then) {
        NumeralCipher x = maker.get();
        due(what, told(x, call), String.valueOf(answer));
        due(what + ", then all", everything(x), everything(then.get()));
    }

    private static String visible(NumeralCipher x) {
        StringBuilder text = new StringBuilder("counts");
        for (int k = 0; k < 5; k++) {
            text.append(' ').append(x.count(k));
        }
        return text.append("; row ").append(row(x)).append("; buffer ").append(buffer(x)).toString();
    }

    private static String row(NumeralCipher x) {
        int[] cells = new int[x.count(0)];
        for (int k = 0; k < cells.length; k++) {
            cells[k] = x.at(k);
        }
        return Arrays.toString(cells);
    }

    private static String buffer(NumeralCipher x) {
        StringBuilder text = new StringBuilder();
        int n = x.count(4);
        for (int k = 0; k < n; k++) {
            text.append(String.format("%02x", x.typed(k)));
        }
        return text.toString();
    }

    /** All that can be seen of an object, its key and tweak by what they do; the object is used up by it. */
    private static String everything(NumeralCipher x) {
        StringBuilder text = new StringBuilder(visible(x));
        text.append("; can ").append(x.can(0)).append(' ').append(x.can(1));
        x.keep(0);
        typeTimes(x, 0x5a, 16);
        x.block();
        text.append("; block ").append(buffer(x));
        for (int way = 0; way < 2; way++) {
            x.radix(10);
            addRow(x, 0, 1, 2, 3, 4, 5, 6, 7, 8, 9);
            if (x.can(way)) {
                x.turn(way, false);
                text.append("; way ").append(way).append(' ').append(row(x));
            }
        }
        return text.toString();
    }

    private static void typeTimes(NumeralCipher x, int b, int n) {
        for (int k = 0; k < n; k++) {
            x.type(b, 1);
        }
    }

    /** Types first, first + 1, .. . */
    private static void typeFrom(NumeralCipher x, int first, int n) {
        for (int k = 0; k < n; k++) {
            x.type(first + k, 1);
        }
    }

    private static void addRow(NumeralCipher x, int... numerals) {
        for (int v : numerals) {
            x.numeral(v);
        }
    }

    private static NumeralCipher with(Consumer<NumeralCipher> calls) {
        NumeralCipher x = new NumeralCipher();
        calls.accept(x);
        return x;
    }

    /** A maker's object with some more calls. */
    private static Supplier<NumeralCipher> and(Supplier<NumeralCipher> maker, Consumer<NumeralCipher> calls) {
        return () -> {
            NumeralCipher x = maker.get();
            calls.accept(x);
            return x;
        };
    }

    private static NumeralCipher empty() {
        return new NumeralCipher();
    }

    /** A key of 24 bytes, a tweak of 7, a buffer of 16, and 8 numerals in radix 10. */
    private static NumeralCipher furnished() {
        return with(x -> {
            typeFrom(x, 0x31, 24);
            x.key();
            typeFrom(x, 0x61, 7);
            x.tweak();
            typeFrom(x, 0xc8, 16);
            addRow(x, 9, 0, 8, 1, 7, 2, 6, 3);
        });
    }

    /** A key and a tweak of 32 bytes, a buffer of 64, and 64 numerals in radix 65536. */
    private static NumeralCipher full() {
        return with(x -> {
            typeFrom(x, 0x41, 32);
            x.key();
            typeFrom(x, 0x91, 32);
            x.tweak();
            for (int k = 0; k < 8; k++) {
                x.type(0x8070605040302010L + k, 8);
            }
            x.radix(65536);
            for (int k = 0; k < 64; k++) {
                x.numeral(65535 - 1000 * k);
            }
        });
    }

    private static Supplier<NumeralCipher> buffered(int n) {
        return and(BoundaryTests::furnished, x -> {
            x.keep(0);
            typeFrom(x, 0x71, n);
        });
    }

    /** The furnished one with so many numerals of a radix: radix - 1, 0, radix - 1, .. . */
    private static Supplier<NumeralCipher> rowed(int radix, int n) {
        return and(BoundaryTests::furnished, x -> {
            x.radix(radix);
            for (int k = 0; k < n; k++) {
                x.numeral(k % 2 == 0 ? radix - 1 : 0);
            }
        });
    }

    private static Supplier<NumeralCipher> tweaked(Supplier<NumeralCipher> maker, int n) {
        return and(maker, x -> {
            x.keep(0);
            typeFrom(x, 0x21, n);
            x.tweak();
        });
    }

    private static int[] outside(int first, int last) {
        return new int[] {first - 1, last + 1, -1, last + 2, last + 256, last + 65536, MIN, MIN + 1, MAX, MAX - 1};
    }

    // ---- promise 1

    private static void newHasTheCountsOfTheDocument() {
        due("new", visible(empty()), "counts 0 10 16 0 0; row []; buffer ");
    }

    private static void newHasAKeyOf16ZeroBytes() {
        NumeralCipher zeros = with(x -> {
            typeTimes(x, 0, 16);
            x.key();
        });
        due("new by its key", everything(empty()), everything(zeros));
        NumeralCipher x = empty();
        typeTimes(x, 0, 16);
        x.block();
        due("new by its key's block of 0s", buffer(x), "66e94bd4ef8a2c3b884cfa59ca342b2e");
    }

    private static void newHasNoTweak() {
        due("new by its tweak", everything(empty()), everything(with(NumeralCipher::tweak)));
    }

    private static void newHasRadix10() {
        taken("numeral(9) in a new one", 1, BoundaryTests::empty, x -> x.numeral(9), () -> with(x -> {
            x.radix(10);
            x.numeral(9);
        }));
        refused("numeral(10) in a new one", ARGUMENT, BoundaryTests::empty, x -> x.numeral(10));
    }

    private static void newHasNothingInRowAndBuffer() {
        refused("at(0) of a new one", INDEX, BoundaryTests::empty, x -> x.at(0));
        refused("set(0, 0) of a new one", INDEX, BoundaryTests::empty, x -> x.set(0, 0));
        refused("cut(1) of a new one", ARGUMENT, BoundaryTests::empty, bare(x -> x.cut(1)));
        refused("typed(0) of a new one", INDEX, BoundaryTests::empty, x -> x.typed(0));
        refused("keep(1) of a new one", ARGUMENT, BoundaryTests::empty, bare(x -> x.keep(1)));
        refused("key() of a new one", ARGUMENT, BoundaryTests::empty, x -> x.key());
        refused("block() of a new one", ARGUMENT, BoundaryTests::empty, bare(NumeralCipher::block));
        refused("turn(0, false) of a new one", STATE, BoundaryTests::empty, bare(x -> x.turn(0, false)));
        due("radix(10) of a new one", empty().radix(10), 0);
    }

    // ---- promise 2

    private static void typeTakesTheLowestBytesHighestFirst() {
        long[] numbers = {0L, -1L, 255L, 256L, -256L, 0x8192a3b4c5d6e7f8L, Long.MIN_VALUE, Long.MAX_VALUE};
        for (long number : numbers) {
            String hex = String.format("%016x", number);
            for (int n = 1; n <= 8; n++) {
                int bytes = n;
                NumeralCipher x = with(y -> y.type(0xabL, 1));
                due("type(" + number + ", " + n + ")", told(x, y -> y.type(number, bytes)), String.valueOf(n + 1));
                due("the buffer then", buffer(x), "ab" + hex.substring(16 - 2 * n));
            }
        }
    }

    private static void typeTakes1To8() {
        taken("type(0x71, 1)", 1, buffered(0), x -> x.type(0x71L, 1), buffered(1));
        taken("type(0x7172737475767778, 8)", 8, buffered(0), x -> x.type(0x7172737475767778L, 8), buffered(8));
        for (int n : outside(1, 8)) {
            refused("type(5, " + n + ")", ARGUMENT, BoundaryTests::empty, x -> x.type(5L, n));
            refused("type(5, " + n + ") behind others", ARGUMENT, BoundaryTests::furnished, x -> x.type(5L, n));
        }
    }

    private static void typeTakesNoMoreThan64() {
        for (int n = 1; n <= 8; n++) {
            int bytes = n;
            taken("type(0, " + n + ") behind " + (64 - n), 64, buffered(64 - n), x -> x.type(0L, bytes),
                and(buffered(64 - n), x -> typeTimes(x, 0, bytes)));
            for (int has = 65 - n; has <= 64; has++) {
                refused("type(7, " + n + ") behind " + has, UNSUPPORTED, buffered(has), x -> x.type(7L, bytes));
            }
            refused("type(7, " + n + ") in a full one", UNSUPPORTED, BoundaryTests::full, x -> x.type(7L, bytes));
        }
        NumeralCipher x = buffered(64).get();
        x.keep(63);
        due("type(0, 1) where a byte has gone", x.type(0L, 1), 64);
    }

    private static void typeNamesTheArgumentFirst() {
        for (int n : outside(1, 8)) {
            refused("type(5, " + n + ") behind 63", ARGUMENT, buffered(63), x -> x.type(5L, n));
            refused("type(5, " + n + ") in a full one", ARGUMENT, BoundaryTests::full, x -> x.type(5L, n));
        }
    }

    // ---- promise 3

    private static void keepTakes0ToAll() {
        for (int has : new int[] {0, 1, 2, 16, 63, 64}) {
            for (int n : new int[] {0, 1, has / 2, has - 1, has}) {
                if (n >= 0 && n <= has) {
                    taken("keep(" + n + ") of " + has, "done", buffered(has), bare(x -> x.keep(n)), buffered(n));
                }
            }
            for (int n : outside(0, has)) {
                refused("keep(" + n + ") of " + has, ARGUMENT, buffered(has), bare(x -> x.keep(n)));
            }
        }
        for (int n : outside(0, 64)) {
            refused("keep(" + n + ") of a full one", ARGUMENT, BoundaryTests::full, bare(x -> x.keep(n)));
        }
    }

    private static void keepForgetsTheOthers() {
        for (int n : new int[] {0, 1, 15}) {
            Supplier<NumeralCipher> less = and(buffered(20), x -> x.keep(n));
            refused("typed(" + n + ") behind keep(" + n + ")", INDEX, less, x -> x.typed(n));
            refused("keep(" + (n + 1) + ") behind keep(" + n + ")", ARGUMENT, less, bare(x -> x.keep(n + 1)));
            taken("type(0, 1) behind keep(" + n + ")", n + 1, less, x -> x.type(0L, 1),
                and(buffered(n), x -> typeTimes(x, 0, 1)));
        }
        // A tweak of fewer bytes than were typed must not have the others behind it.
        taken("tweak() behind keep(3)", 3, and(buffered(32), x -> x.keep(3)), x -> x.tweak(),
            and(buffered(3), x -> x.tweak()));
    }

    // ---- promise 4

    private static void typedTakesTheFirstToTheLast() {
        for (int has : new int[] {1, 2, 16, 63, 64}) {
            taken("typed(0) of " + has, 0x71, buffered(has), x -> x.typed(0), buffered(has));
            taken("typed(" + (has - 1) + ") of " + has, 0x70 + has, buffered(has), x -> x.typed(has - 1), buffered(has));
        }
        for (int has : new int[] {0, 1, 2, 16, 63, 64}) {
            for (int i : outside(0, has - 1)) {
                refused("typed(" + i + ") of " + has, INDEX, buffered(has), x -> x.typed(i));
            }
        }
        refused("typed(64) of a full one", INDEX, BoundaryTests::full, x -> x.typed(64));
    }

    private static void typedAnswersEveryByte() {
        for (int b = 0; b < 256; b++) {
            int high = b << 8;
            NumeralCipher x = with(y -> y.type(high, 2));
            due("typed(0) of byte " + b, x.typed(0), b);
            due("typed(1) behind byte " + b, x.typed(1), 0);
        }
    }

    // ---- promise 5

    private static void keyTakes16And24And32() {
        for (int n = 0; n <= 64; n++) {
            if (n == 16 || n == 24 || n == 32) {
                int bytes = n;
                NumeralCipher x = buffered(n).get();
                due("key() of " + n, told(x, y -> y.key()), String.valueOf(n / 4 + 6));
                due("count(2) behind key() of " + n, x.count(2), bytes);
            } else {
                refused("key() of " + n, ARGUMENT, buffered(n), x -> x.key());
            }
        }
        refused("key() of none in a new one", ARGUMENT, BoundaryTests::empty, x -> x.key());
        refused("key() of 64 in a full one", ARGUMENT, BoundaryTests::full, x -> x.key());
    }

    private static void keyEmptiesTheBuffer() {
        for (int n : KEY_LENGTHS) {
            Supplier<NumeralCipher> keyed = and(buffered(n), x -> x.key());
            due("count(4) behind key() of " + n, keyed.get().count(4), 0);
            refused("typed(0) behind key() of " + n, INDEX, keyed, x -> x.typed(0));
            refused("keep(1) behind key() of " + n, ARGUMENT, keyed, bare(x -> x.keep(1)));
            refused("key() behind key() of " + n, ARGUMENT, keyed, x -> x.key());
            due("type behind key() of " + n, keyed.get().type(0L, 8), 8);
        }
    }

    private static void keyIsNotTheBufferAnyMore() {
        for (int n : KEY_LENGTHS) {
            Supplier<NumeralCipher> typedOver = and(buffered(n), x -> {
                x.key();
                typeTimes(x, 0xee, 64);
                x.keep(0);
            });
            due("the key of " + n + " when others are typed", everything(typedOver.get()),
                everything(and(buffered(n), x -> x.key()).get()));
        }
    }

    private static void keyAnswersItsRounds() {
        for (int before : KEY_LENGTHS) {
            for (int n : KEY_LENGTHS) {
                NumeralCipher x = buffered(before).get();
                x.key();
                typeFrom(x, 0x51, n);
                due("key() of " + n + " behind one of " + before, x.key(), n / 4 + 6);
                due("all behind key() of " + n + " behind one of " + before, everything(x),
                    everything(and(buffered(0), y -> {
                        typeFrom(y, 0x51, n);
                        y.key();
                    }).get()));
            }
        }
    }

    /** Another value of any one byte, the first and the last too, makes another key, by both ways. */
    private static void keyCountsForAllItsBytes() {
        for (int n : KEY_LENGTHS) {
            NumeralCipher plain = keyedBut(n, -1);
            String[] same = everything(plain).split("; ");
            for (int k = 0; k < n; k++) {
                String[] other = everything(keyedBut(n, k)).split("; ");
                for (int part = 0; part < same.length; part++) {
                    boolean byKey = same[part].startsWith("block") || same[part].startsWith("way");
                    if (byKey && same[part].equals(other[part])) {
                        due("byte " + k + " of a key of " + n, same[part], "another one");
                    }
                }
            }
        }
    }

    private static NumeralCipher keyedBut(int n, int place) {
        NumeralCipher x = tweaked(BoundaryTests::empty, 7).get();
        for (int k = 0; k < n; k++) {
            x.type(k == place ? 1 : 0, 1);
        }
        x.key();
        return x;
    }

    // ---- promise 6

    private static void tweakTakes0To32() {
        for (int n = 0; n <= 32; n++) {
            NumeralCipher x = buffered(n).get();
            due("tweak() of " + n, told(x, y -> y.tweak()), String.valueOf(n));
            due("count(3) behind tweak() of " + n, x.count(3), n);
        }
        for (int n = 33; n <= 64; n++) {
            refused("tweak() of " + n, ARGUMENT, buffered(n), x -> x.tweak());
        }
        refused("tweak() of 64 in a full one", ARGUMENT, BoundaryTests::full, x -> x.tweak());
    }

    private static void tweakEmptiesTheBuffer() {
        for (int n : new int[] {0, 1, 7, 32}) {
            Supplier<NumeralCipher> behind = and(buffered(n), x -> x.tweak());
            due("count(4) behind tweak() of " + n, behind.get().count(4), 0);
            refused("typed(0) behind tweak() of " + n, INDEX, behind, x -> x.typed(0));
            refused("keep(1) behind tweak() of " + n, ARGUMENT, behind, bare(x -> x.keep(1)));
            due("type behind tweak() of " + n, behind.get().type(0L, 8), 8);
        }
    }

    private static void tweakIsNotTheBufferAnyMore() {
        for (int n : new int[] {0, 1, 7, 32}) {
            Supplier<NumeralCipher> typedOver = and(buffered(n), x -> {
                x.tweak();
                typeTimes(x, 0xee, 64);
                x.keep(0);
            });
            due("the tweak of " + n + " when others are typed", everything(typedOver.get()),
                everything(and(buffered(n), x -> x.tweak()).get()));
        }
    }

    private static void tweakOfNoneReplacesALongOne() {
        for (int before : new int[] {1, 7, 32}) {
            for (int n : new int[] {0, 1, 6, 7, 8, 31, 32}) {
                due("tweak() of " + n + " behind one of " + before,
                    everything(tweaked(tweaked(BoundaryTests::empty, before), n).get()),
                    everything(tweaked(BoundaryTests::empty, n).get()));
            }
        }
    }

    /** Another value of any one byte of the tweak, and one 0 more, makes another row. */
    private static void tweakCountsForAllItsBytes() {
        for (int n = 0; n <= 32; n++) {
            String[] same = everything(tweakedBut(n, -1)).split("; ");
            for (int k = 0; k < n; k++) {
                String[] other = everything(tweakedBut(n, k)).split("; ");
                for (int part = 0; part < same.length; part++) {
                    if (same[part].startsWith("way") && same[part].equals(other[part])) {
                        due("byte " + k + " of a tweak of " + n, same[part], "another one");
                    }
                }
            }
            if (n < 32 && wayZero(tweakedBut(n, -1)).equals(wayZero(tweakedBut(n + 1, -1)))) {
                due("a tweak of " + n + " bytes of 0", "the same row", "another than by one more");
            }
        }
    }

    private static NumeralCipher tweakedBut(int n, int place) {
        return with(x -> {
            for (int k = 0; k < n; k++) {
                x.type(k == place ? 1 : 0, 1);
            }
            x.tweak();
        });
    }

    private static String wayZero(NumeralCipher x) {
        String all = everything(x);
        int from = all.indexOf("way 0");
        return all.substring(from, all.indexOf(']', from));
    }

    // ---- promise 7

    private static void blockTakes16() {
        for (int n = 0; n <= 64; n++) {
            if (n == 16) {
                due("block() of 16", told(buffered(16).get(), bare(NumeralCipher::block)), "done");
            } else {
                refused("block() of " + n, ARGUMENT, buffered(n), bare(NumeralCipher::block));
            }
        }
        refused("block() of 64 in a full one", ARGUMENT, BoundaryTests::full, bare(NumeralCipher::block));
        refused("block() of 16 kept to 15", ARGUMENT, and(buffered(16), x -> x.keep(15)), bare(NumeralCipher::block));
        due("block() of 17 kept to 16", told(and(buffered(17), x -> x.keep(16)).get(), bare(NumeralCipher::block)), "done");
    }

    private static void blockChangesTheBufferAlone() {
        NumeralCipher x = furnished();
        x.block();
        due("count(4) behind block()", x.count(4), 16);
        x.keep(0);
        due("all behind block() but the buffer", everything(x), everything(buffered(0).get()));
    }

    /** Known answers of AES, which the JDK's gives too: 0s and highest bytes as block and as key. */
    private static void blockOfLowestAndHighestBytes() {
        dueBlock(0x00, 16, 0x00, "66e94bd4ef8a2c3b884cfa59ca342b2e");
        dueBlock(0x00, 24, 0x00, "aae06992acbf52a3e8f4a96ec9300bd7");
        dueBlock(0x00, 32, 0x00, "dc95c078a2408989ad48a21492842087");
        dueBlock(0x00, 16, 0xff, "3f5b8cc9ea855a0afa7347d23e8d664e");
        dueBlock(0xff, 16, 0x00, "a1f6258c877d5fcd8964484538bfc92c");
        dueBlock(0xff, 24, 0x00, "dd8a493514231cbf56eccee4c40889fb");
        dueBlock(0xff, 32, 0x00, "4bf85f1b5d54adbc307b0a048389adcb");
    }

    private static void dueBlock(int keyByte, int keyLength, int blockByte, String want) {
        NumeralCipher x = empty();
        typeTimes(x, keyByte, keyLength);
        x.key();
        typeTimes(x, blockByte, 16);
        x.block();
        due("block() of bytes " + blockByte + " by " + keyLength + " bytes " + keyByte, buffer(x), want);
    }

    // ---- promise 8

    private static void radixTakes2To65536() {
        for (int r : RADICES) {
            taken("radix(" + r + ")", 8, BoundaryTests::furnished, x -> x.radix(r), rowed(r, 0));
            taken("radix(" + r + ") of none", 0, rowed(10, 0), x -> x.radix(r), rowed(r, 0));
        }
        for (int r : outside(2, 65536)) {
            refused("radix(" + r + ")", ARGUMENT, BoundaryTests::furnished, x -> x.radix(r));
            refused("radix(" + r + ") in a new one", ARGUMENT, BoundaryTests::empty, x -> x.radix(r));
            refused("radix(" + r + ") in a full one", ARGUMENT, BoundaryTests::full, x -> x.radix(r));
        }
        refused("radix(0)", ARGUMENT, BoundaryTests::furnished, x -> x.radix(0));
        refused("radix(-10)", ARGUMENT, BoundaryTests::furnished, x -> x.radix(-10));
    }

    private static void radixEmptiesTheRow() {
        for (int n : new int[] {0, 1, 63, 64}) {
            taken("radix(7) of " + n, n, rowed(10, n), x -> x.radix(7), rowed(7, 0));
            refused("at(0) behind radix(7) of " + n, INDEX, and(rowed(10, n), x -> x.radix(7)), x -> x.at(0));
            refused("cut(1) behind radix(7) of " + n, ARGUMENT, and(rowed(10, n), x -> x.radix(7)), bare(x -> x.cut(1)));
        }
        due("radix(2) of a full one", full().radix(2), 64);
    }

    private static void radixAlikeEmptiesTheRow() {
        for (int r : RADICES) {
            taken("radix(" + r + ") again", 5, rowed(r, 5), x -> x.radix(r), rowed(r, 0));
        }
    }

    // ---- promise 9

    private static void numeralTakes0ToRadixLess1() {
        for (int r : RADICES) {
            taken("numeral(" + (r - 1) + ") of " + r, 1, rowed(r, 0), x -> x.numeral(r - 1), rowed(r, 1));
            taken("numeral(0) of " + r, 2, rowed(r, 1), x -> x.numeral(0), rowed(r, 2));
            for (int v : outside(0, r - 1)) {
                refused("numeral(" + v + ") of " + r, ARGUMENT, rowed(r, 0), x -> x.numeral(v));
                refused("numeral(" + v + ") of " + r + " behind 3", ARGUMENT, rowed(r, 3), x -> x.numeral(v));
            }
        }
    }

    private static void numeralTakesNoMoreThan64() {
        for (int r : RADICES) {
            taken("numeral 64 of " + r, 64, rowed(r, 63), x -> x.numeral(0), rowed(r, 64));
            refused("numeral 65 of " + r + ", the lowest", UNSUPPORTED, rowed(r, 64), x -> x.numeral(0));
            refused("numeral 65 of " + r + ", the highest", UNSUPPORTED, rowed(r, 64), x -> x.numeral(r - 1));
        }
        refused("numeral(0) in a full one", UNSUPPORTED, BoundaryTests::full, x -> x.numeral(0));
        taken("numeral(0) where one has gone", 64, and(rowed(10, 64), x -> x.cut(63)), x -> x.numeral(0), rowed(10, 64));
    }

    private static void numeralNamesTheArgumentFirst() {
        for (int r : RADICES) {
            for (int v : outside(0, r - 1)) {
                refused("numeral(" + v + ") of " + r + " behind 64", ARGUMENT, rowed(r, 64), x -> x.numeral(v));
            }
        }
    }

    private static void numeralGoesByTheLastRadix() {
        refused("numeral(9) where 10 became 9", ARGUMENT, and(rowed(10, 3), x -> x.radix(9)), x -> x.numeral(9));
        taken("numeral(10) where 10 became 11", 1, and(rowed(10, 3), x -> x.radix(11)), x -> x.numeral(10), rowed(11, 1));
        refused("numeral(10) where 11 was refused", ARGUMENT, and(rowed(10, 3),
            x -> told(x, y -> y.radix(65537))), x -> x.numeral(10));
    }

    // ---- promise 10

    private static void cutTakes0ToAll() {
        for (int has : new int[] {0, 1, 2, 8, 63, 64}) {
            for (int n : new int[] {0, 1, has / 2, has - 1, has}) {
                if (n >= 0 && n <= has) {
                    taken("cut(" + n + ") of " + has, "done", rowed(10, has), bare(x -> x.cut(n)), rowed(10, n));
                }
            }
            for (int n : outside(0, has)) {
                refused("cut(" + n + ") of " + has, ARGUMENT, rowed(10, has), bare(x -> x.cut(n)));
            }
        }
        for (int n : outside(0, 64)) {
            refused("cut(" + n + ") of a full one", ARGUMENT, BoundaryTests::full, bare(x -> x.cut(n)));
        }
    }

    private static void cutForgetsTheOthers() {
        for (int n : new int[] {0, 1, 7}) {
            Supplier<NumeralCipher> less = and(BoundaryTests::furnished, x -> x.cut(n));
            refused("at(" + n + ") behind cut(" + n + ")", INDEX, less, x -> x.at(n));
            refused("set(" + n + ", 0) behind cut(" + n + ")", INDEX, less, x -> x.set(n, 0));
            refused("cut(" + (n + 1) + ") behind cut(" + n + ")", ARGUMENT, less, bare(x -> x.cut(n + 1)));
            due("numeral behind cut(" + n + ")", less.get().numeral(4), n + 1);
            due("the radix behind cut(" + n + ")", less.get().count(1), 10);
        }
    }

    // ---- promise 11

    private static void setTakesTheFirstToTheLast() {
        for (int has : new int[] {1, 2, 63, 64}) {
            int last = (has - 1) % 2 == 0 ? 9 : 0;
            taken("set(0, 5) of " + has, 9, rowed(10, has), x -> x.set(0, 5), changedRow(has, 0, 5));
            taken("set(" + (has - 1) + ", 5) of " + has, last, rowed(10, has), x -> x.set(has - 1, 5),
                changedRow(has, has - 1, 5));
        }
        for (int has : new int[] {0, 1, 2, 63, 64}) {
            for (int i : outside(0, has - 1)) {
                refused("set(" + i + ", 5) of " + has, INDEX, rowed(10, has), x -> x.set(i, 5));
            }
        }
        refused("set(64, 5) of a full one", INDEX, BoundaryTests::full, x -> x.set(64, 5));
    }

    private static Supplier<NumeralCipher> changedRow(int n, int place, int v) {
        return and(rowed(10, 0), x -> {
            for (int k = 0; k < n; k++) {
                x.numeral(k == place ? v : k % 2 == 0 ? 9 : 0);
            }
        });
    }

    private static void setTakes0ToRadixLess1() {
        for (int r : RADICES) {
            Supplier<NumeralCipher> highest = and(rowed(r, 1), x -> x.numeral(r - 1));
            taken("set(1, " + (r - 1) + ") of " + r, 0, rowed(r, 2), x -> x.set(1, r - 1), highest);
            taken("set(1, 0) of " + r, r - 1, highest, x -> x.set(1, 0), rowed(r, 2));
            taken("set(0, " + (r - 1) + ") to what it was", r - 1, rowed(r, 2), x -> x.set(0, r - 1), rowed(r, 2));
            for (int v : outside(0, r - 1)) {
                refused("set(1, " + v + ") of " + r, ARGUMENT, rowed(r, 3), x -> x.set(1, v));
                refused("set(63, " + v + ") of " + r, ARGUMENT, rowed(r, 64), x -> x.set(63, v));
            }
        }
    }

    private static void setNamesTheIndexFirst() {
        for (int has : new int[] {0, 1, 64}) {
            for (int i : outside(0, has - 1)) {
                refused("set(" + i + ", 10) of " + has, INDEX, rowed(10, has), x -> x.set(i, 10));
                refused("set(" + i + ", -1) of " + has, INDEX, rowed(10, has), x -> x.set(i, -1));
            }
        }
    }

    // ---- promise 12

    private static void atTakesTheFirstToTheLast() {
        for (int has : new int[] {1, 2, 63, 64}) {
            int last = (has - 1) % 2 == 0 ? 65535 : 0;
            taken("at(0) of " + has, 65535, rowed(65536, has), x -> x.at(0), rowed(65536, has));
            taken("at(" + (has - 1) + ") of " + has, last, rowed(65536, has), x -> x.at(has - 1), rowed(65536, has));
        }
        for (int has : new int[] {0, 1, 2, 63, 64}) {
            for (int i : outside(0, has - 1)) {
                refused("at(" + i + ") of " + has, INDEX, rowed(65536, has), x -> x.at(i));
            }
        }
        refused("at(64) of a full one", INDEX, BoundaryTests::full, x -> x.at(64));
    }

    // ---- promise 13

    private static void canTakesWays0And1() {
        taken("can(0)", true, BoundaryTests::furnished, x -> x.can(0), BoundaryTests::furnished);
        taken("can(1)", true, BoundaryTests::furnished, x -> x.can(1), BoundaryTests::furnished);
        for (int way : outside(0, 1)) {
            refused("can(" + way + ")", ARGUMENT, BoundaryTests::furnished, x -> x.can(way));
            refused("can(" + way + ") in a new one", ARGUMENT, BoundaryTests::empty, x -> x.can(way));
            refused("can(" + way + ") in a full one", ARGUMENT, BoundaryTests::full, x -> x.can(way));
        }
    }

    private static void canWants2Numerals() {
        for (int way = 0; way < 2; way++) {
            due("can(" + way + ") of none", rowed(65536, 0).get().can(way), false);
            due("can(" + way + ") of one", rowed(65536, 1).get().can(way), false);
            due("can(" + way + ") of two", rowed(65536, 2).get().can(way), true);
            due("can(" + way + ") of two cut to one", and(rowed(65536, 2), x -> x.cut(1)).get().can(way), false);
        }
    }

    /** In every radix there is: the fewest numerals that can be turned, and one less. */
    private static void canWants1000000RowsInEveryRadix() {
        for (int r = 2; r <= 65536; r++) {
            int fewest = 0;
            for (long rows = 1; rows < 1000000; rows *= r) {
                fewest++;
            }
            NumeralCipher x = tweaked(BoundaryTests::empty, 7).get();
            x.radix(r);
            addRow(x, new int[fewest - 1]);
            due("can(0) of " + (fewest - 1) + " in radix " + r, x.can(0), false);
            due("can(1) of " + (fewest - 1) + " in radix " + r, x.can(1), false);
            x.numeral(0);
            due("can(0) of " + fewest + " in radix " + r, x.can(0), true);
            due("can(1) of " + fewest + " in radix " + r, x.can(1), true);
        }
    }

    private static void canWantsATweakOf7ByWay1() {
        for (int n = 0; n <= 32; n++) {
            NumeralCipher x = tweaked(BoundaryTests::furnished, n).get();
            due("can(0) with a tweak of " + n, x.can(0), true);
            due("can(1) with a tweak of " + n, x.can(1), n == 7);
        }
        due("can(1) with 7 bytes that are not the tweak yet", and(tweaked(BoundaryTests::furnished, 6),
            x -> typeFrom(x, 1, 7)).get().can(1), false);
        due("can(1) where a tweak of 33 was refused", and(buffered(33), x -> told(x, y -> y.tweak())).get().can(1), true);
    }

    /** In every radix: the longest row that way 1 can turn, and one numeral more; way 0 has no such bound. */
    private static void canWantsANumberOf96BitsByWay1() {
        BigInteger most = BigInteger.ONE.shiftLeft(96);
        for (int r = 2; r <= 65536; r++) {
            int u = 0;
            BigInteger base = BigInteger.valueOf(r);
            for (BigInteger rows = base; rows.compareTo(most) <= 0 && u < 32; rows = rows.multiply(base)) {
                u++;
            }
            NumeralCipher x = tweaked(BoundaryTests::empty, 7).get();
            x.radix(r);
            addRow(x, new int[2 * u]);
            due("can(1) of " + 2 * u + " in radix " + r, x.can(1), true);
            if (u < 32) {
                x.numeral(0);
                due("can(1) of " + (2 * u + 1) + " in radix " + r, x.can(1), false);
                due("can(0) of " + (2 * u + 1) + " in radix " + r, x.can(0), true);
            }
        }
    }

    private static void canChangesNothing() {
        for (int way = 0; way < 2; way++) {
            int w = way;
            taken("can(" + w + ") of a new one", false, BoundaryTests::empty, x -> x.can(w), BoundaryTests::empty);
            taken("can(" + w + ") of a full one", w == 0, BoundaryTests::full, x -> x.can(w), BoundaryTests::full);
            taken("can(" + w + ") of the longest", true, rowed(8, 64), x -> x.can(w), rowed(8, 64));
            taken("can(" + w + ") of a short one", false, rowed(10, 5), x -> x.can(w), rowed(10, 5));
        }
    }

    // ---- promise 14

    private static void refusedTurn(String what, Class<? extends RuntimeException> thrown,
            Supplier<NumeralCipher> maker, int way) {
        refused("turn(" + way + ", false) of " + what, thrown, maker, bare(x -> x.turn(way, false)));
        refused("turn(" + way + ", true) of " + what, thrown, maker, bare(x -> x.turn(way, true)));
    }

    private static void turnTakesWays0And1() {
        for (int way : outside(0, 1)) {
            refusedTurn("a furnished one", ARGUMENT, BoundaryTests::furnished, way);
            refusedTurn("a full one", ARGUMENT, BoundaryTests::full, way);
        }
    }

    private static void turnNamesTheArgumentFirst() {
        for (int way : outside(0, 1)) {
            refusedTurn("a new one", ARGUMENT, BoundaryTests::empty, way);
            refusedTurn("a short row", ARGUMENT, rowed(10, 5), way);
        }
    }

    private static void turnRefusesAShortRow() {
        int[][] longest = {{2, 19}, {3, 12}, {10, 5}, {99, 3}, {100, 2}, {999, 2}, {1000, 1}, {65536, 1}, {65536, 0}};
        for (int[] rows : longest) {
            for (int way = 0; way < 2; way++) {
                refusedTurn(rows[1] + " in radix " + rows[0], STATE, rowed(rows[0], rows[1]), way);
            }
        }
        for (int way = 0; way < 2; way++) {
            refusedTurn("6 cut to 5", STATE, and(rowed(10, 6), x -> x.cut(5)), way);
        }
    }

    private static void turnRefusesATweakNotOf7ByWay1() {
        for (int n = 0; n <= 32; n++) {
            if (n != 7) {
                refusedTurn("a row with a tweak of " + n, STATE, tweaked(BoundaryTests::furnished, n), 1);
            }
        }
        refusedTurn("a full one", STATE, BoundaryTests::full, 1);
    }

    private static void turnRefusesALongHalfByWay1() {
        int[][] shortest = {{9, 61}, {10, 57}, {255, 25}, {256, 25}, {257, 23}, {65535, 13}, {65536, 13}, {65536, 64}};
        for (int[] rows : shortest) {
            refusedTurn(rows[1] + " in radix " + rows[0], STATE, rowed(rows[0], rows[1]), 1);
        }
    }

    /** Where can says yes the row is turned, and back again; where it says no the turn is refused. */
    private static void turnTakesJustWhatCanBeTurned() {
        for (int r : RADICES) {
            for (int n = 0; n <= 64; n++) {
                for (int way = 0; way < 2; way++) {
                    turnIfItCan(rowed(r, n), way, n + " in radix " + r);
                }
            }
        }
    }

    private static void turnIfItCan(Supplier<NumeralCipher> maker, int way, String what) {
        NumeralCipher x = maker.get();
        String before = visible(x);
        boolean back = x.count(0) % 2 == 0;
        String want = x.can(way) ? "done" : "throws " + STATE.getName();
        due("turn(" + way + ") of " + what, told(x, bare(y -> y.turn(way, back))), want);
        if (x.can(way) && visible(x).equals(before)) {
            due("turn(" + way + ") of " + what, "the same row", "another one");
        }
        due("turn(" + way + ") back of " + what, told(x, bare(y -> y.turn(way, !back))), want);
        due("all behind both turns by " + way + " of " + what, visible(x), before);
    }

    private static void turnChangesTheRowAlone() {
        for (int way = 0; way < 2; way++) {
            for (boolean back : new boolean[] {false, true}) {
                int w = way;
                due("all behind turn(" + way + ", " + back + ") but the row",
                    everything(and(BoundaryTests::furnished, x -> {
                        x.turn(w, back);
                        x.cut(0);
                    }).get()), everything(and(BoundaryTests::furnished, x -> x.cut(0)).get()));
            }
        }
    }

    // ---- promise 15

    private static void countTakes0To4() {
        int[] counts = {8, 10, 24, 7, 16};
        for (int k = 0; k < 5; k++) {
            int what = k;
            taken("count(" + k + ")", counts[k], BoundaryTests::furnished, x -> x.count(what), BoundaryTests::furnished);
        }
        for (int what : outside(0, 4)) {
            refused("count(" + what + ")", INDEX, BoundaryTests::furnished, x -> x.count(what));
            refused("count(" + what + ") of a new one", INDEX, BoundaryTests::empty, x -> x.count(what));
            refused("count(" + what + ") of a full one", INDEX, BoundaryTests::full, x -> x.count(what));
        }
    }

    private static void countOfTheEmptiest() {
        NumeralCipher x = empty();
        x.radix(2);
        int[] counts = {0, 2, 16, 0, 0};
        for (int k = 0; k < 5; k++) {
            due("count(" + k + ") of the emptiest", x.count(k), counts[k]);
        }
    }

    private static void countOfTheFullest() {
        NumeralCipher x = full();
        int[] counts = {64, 65536, 32, 32, 64};
        for (int k = 0; k < 5; k++) {
            due("count(" + k + ") of the fullest", x.count(k), counts[k]);
        }
    }

    // ---- "An object is used for at most 512 calls"

    private static void theLastCall() {
        Supplier<NumeralCipher> maker = () -> with(x -> {
            for (int k = 0; k < 64; k++) {
                x.numeral(k % 10);
            }
        });
        NumeralCipher x = maker.get();
        for (int k = 0; k < 384; k++) {
            x.turn(0, k % 2 != 0);
        }
        int[] cells = new int[64];
        for (int k = 0; k < 64; k++) {
            cells[k] = x.at(k);
        }
        due("the row by calls 449 to 512", Arrays.toString(cells), row(maker.get()));
    }
}
