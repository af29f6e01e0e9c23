import java.nio.charset.StandardCharsets;

/** Prints every answer that is not the one that is due, and ends with 1 if there was one. */
final class Due {
    static final int UNKNOWN = -1, BAD = -2, LATE = -3, FULL = -4, NONE = -9;

    private static int asked = 0;
    private static int wrong = 0;
    private static String sentence = "";

    private Due() {
    }

    static void is(String call, long got, long want) {
        asked++;
        if (got != want) {
            wrong++;
            System.out.println(sentence + call + " answered " + got + ", due is " + want);
        }
    }

    static void that(String what, boolean holds) {
        is(what, holds ? 1 : 0, 1);
    }

    static void same(String what, String got, String want) {
        asked++;
        if (!got.equals(want)) {
            wrong++;
            System.out.println(sentence + what + ": " + got + ", due is " + want);
        }
    }

    /** The test of one sentence of the document: what is wrong in it is told with that sentence. */
    static void edge(String told, Runnable test) {
        int before = asked;
        sentence = "(" + told + ") ";
        test.run();
        that("asks something", asked > before);
        sentence = "";
    }

    static void write(HoundLicence x, String text) {
        for (byte letter : text.getBytes(StandardCharsets.ISO_8859_1)) {
            x.write(letter & 255);
        }
    }

    /** A new object with a text. */
    static HoundLicence written(String text) {
        HoundLicence x = new HoundLicence();
        write(x, text);
        return x;
    }

    /** A new object under a law. */
    static HoundLicence under(String text) {
        HoundLicence x = written(text);
        that("ordain() of " + text, x.ordain() >= 0);
        return x;
    }

    static void hours(HoundLicence x, int n) {
        for (int i = 0; i < n; i++) {
            x.hour();
        }
    }

    static void leads(HoundLicence x, int dog, int way, int n) {
        for (int i = 0; i < n; i++) {
            x.lead(dog, way);
        }
    }

    /** The answers that are due to a question by its last argument, 0, 1, .. */
    static void row(String call, java.util.function.IntUnaryOperator asks, int... due) {
        for (int i = 0; i < due.length; i++) {
            is(call.replace("#", "" + i), asks.applyAsInt(i), due[i]);
        }
    }

    static void end() {
        System.out.println(asked + " answers, " + wrong + " not as due");
        if (wrong != 0 || asked == 0) {
            System.exit(1);
        }
    }
}
