import java.nio.charset.StandardCharsets;

/** Prints every answer that is not the one that is due, and ends with 1 if there was one. */
final class Due {
    static final int UNKNOWN = -1, BAD = -2, LATE = -3, FULL = -4, NONE = -9;

    private static int asked = 0;
    private static int wrong = 0;

    private Due() {
    }

    static void is(String call, long got, long want) {
        asked++;
        if (got != want) {
            wrong++;
            System.out.println(call + " answered " + got + ", due is " + want);
        }
    }

    static void that(String what, boolean holds) {
        is(what, holds ? 1 : 0, 1);
    }

    static void write(HoundLicence x, String text) {
        for (byte letter : text.getBytes(StandardCharsets.ISO_8859_1)) {
            x.write(letter & 255);
        }
    }

    /** A new object under a law. */
    static HoundLicence under(String text) {
        HoundLicence x = new HoundLicence();
        write(x, text);
        that("ordain() of " + text, x.ordain() >= 0);
        return x;
    }

    static void hours(HoundLicence x, int n) {
        for (int i = 0; i < n; i++) {
            x.hour();
        }
    }

    /** All that can be asked without changing anything, in one text. */
    static String all(HoundLicence x) {
        StringBuilder out = new StringBuilder();
        for (int what = 0; what <= 10; what++) {
            out.append(x.about(what)).append(' ');
        }
        for (int dog = 0; dog < 4; dog++) {
            for (int what = 0; what <= 5; what++) {
                out.append(x.dog(dog, what)).append(' ');
            }
        }
        for (int man = 0; man < 5; man++) {
            for (int what = 0; what <= 4; what++) {
                out.append(x.man(man, what)).append(' ');
            }
            out.append(x.sure(man)).append(' ');
        }
        long seed = x.seed(0);
        x.seed(seed);
        return out.append(x.fault()).append(' ').append(x.walks()).append(' ').append(seed).toString();
    }

    /** A call that must be refused with this answer, and change nothing. */
    static void refused(String call, HoundLicence x, java.util.function.LongSupplier made, long want) {
        String before = all(x);
        is(call, made.getAsLong(), want);
        that("nothing is changed by " + call, before.equals(all(x)));
    }

    static void end() {
        System.out.println(asked + " answers, " + wrong + " not as due");
        if (wrong != 0 || asked == 0) {
            System.exit(1);
        }
    }
}
