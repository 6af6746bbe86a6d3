/** Promise 14 (and 5, 6, 8, 9, 12) by samples that were published for FF1 and FF3-1. */
public final class PublishedSamples {
    private static final String DIGITS = "0123456789abcdefghijklmnopqrstuvwxyz";
    private static final String LETTERS = "abcdefghijklmnopqrstuvwxyz";
    private static final String KEY_128 = "2B7E151628AED2A6ABF7158809CF4F3C";
    private static final String KEY_192 = KEY_128 + "EF4359D8D580AA4F";
    private static final String KEY_256 = KEY_192 + "7F036D6F04FC6A94";
    private static final String TWEAK_10 = "39383736353433323130";
    private static final String TWEAK_36 = "3737373770717273373737";

    private static int wrong = 0;

    public static void main(String[] args) {
        firstWay(KEY_128, "2433477484", "6124200773", "a9tv40mll9kdu509eum");
        firstWay(KEY_192, "2830668132", "2496655549", "xbj3kv35jrawxv32ysr");
        firstWay(KEY_256, "6657667009", "1001623463", "xs8a0azh2avyalyzuwd");
        sample(1, "2DE79D232DF5585D68CE47882AE256D6", "CBD09280979564", 10, DIGITS, "3992520240", "8901801106");
        sample(1, "01C63017111438F7FC8E24EB16C71AB5", "C4E822DCD09F27", 10, DIGITS,
            "60761757463116869318437658042297305934914824457484538562",
            "35637144092473838892796702739628394376915177448290847293");
        sample(1, "718385E6542534604419E83CE387A437", "B6F35084FA90E1", 26, LETTERS, "wfmwlrorcd", "ywowehycyd");
        System.out.println(wrong == 0 ? "all answers are as due" : wrong + " answers are not as due");
        if (wrong != 0) {
            System.exit(1);
        }
    }

    private static void firstWay(String key, String bare, String tweaked, String letters) {
        sample(0, key, "", 10, DIGITS, "0123456789", bare);
        sample(0, key, TWEAK_10, 10, DIGITS, "0123456789", tweaked);
        sample(0, key, TWEAK_36, 36, DIGITS, "0123456789abcdefghi", letters);
    }

    private static void sample(int way, String key, String tweak, int radix, String signs, String from, String to) {
        NumeralCipher x = new NumeralCipher();
        typeHex(x, key);
        x.key();
        typeHex(x, tweak);
        x.tweak();
        x.radix(radix);
        for (int i = 0; i < from.length(); i++) {
            x.numeral(signs.indexOf(from.charAt(i)));
        }
        x.turn(way, false);
        due("way " + way + " of " + from, row(x, signs), to);
        x.turn(way, true);
        due("way " + way + " back from " + to, row(x, signs), from);
    }

    private static void typeHex(NumeralCipher x, String hex) {
        for (int i = 0; i + 1 < hex.length(); i += 2) {
            x.type(Integer.parseInt(hex.substring(i, i + 2), 16), 1);
        }
    }

    private static String row(NumeralCipher x, String signs) {
        StringBuilder text = new StringBuilder();
        for (int i = 0; i < x.count(0); i++) {
            text.append(signs.charAt(x.at(i)));
        }
        return text.toString();
    }

    private static void due(String what, String got, String want) {
        if (!got.equals(want)) {
            wrong++;
            System.out.println(what + " answered " + got + ", due is " + want);
        }
    }
}
