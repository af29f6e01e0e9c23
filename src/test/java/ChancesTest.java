import java.math.BigInteger;

/** Promises 24 to 27: rests, chance, seed, days. */
public final class ChancesTest {
    public static void main(String[] args) {
        rests();
        chance();
        chanceOfLateHours();
        seed();
        days();
        daysOfTheSeed();
        Due.end();
    }

    private static void rests(int row, int many, int first) {
        HoundLicence x = new HoundLicence();
        Due.is("rests(" + row + ", 0)", x.rests(row, 0), many);
        Due.is("rests(" + row + ", 1)", x.rests(row, 1), first);
        Due.same("rests changes nothing", State.all(x), State.all(new HoundLicence()));
    }

    private static void rests() {
        rests(0, 25, 0);
        rests(99999, 0, Due.NONE);
        rests(10203, 0, Due.NONE);
        rests(90000, 5, 0);
        rests(1000, 5, 10);
        rests(500, 5, 20);
        rests(70, 5, 30);
        rests(3, 5, 40);
        rests(11, 0, Due.NONE);
        rests(50001, 0, Due.NONE);
    }

    private static void chance(HoundLicence x, int man, int n, int above, int below) {
        Due.is("chance(" + man + ", " + n + ", true)", x.chance(man, n, true), above);
        Due.is("chance(" + man + ", " + n + ", false)", x.chance(man, n, false), below);
    }

    private static void chance() {
        HoundLicence x = Due.under("L121234M-20M-00");
        String before = State.all(x);
        chance(x, 0, 0, 0, 1);
        chance(x, 0, 1, 1, 4);
        chance(x, 0, 2, 1, 2);
        chance(x, 0, 3, 3, 4);
        chance(x, 0, 4, 1, 1);
        chance(x, 0, 24, 1, 1);
        chance(x, 1, 24, 0, 1);
        Due.same("chance changes nothing", State.all(x), before);
        x.hour();
        x.hour();
        Due.is("IMPOUNDED", x.about(6), 1);
        chance(x, 0, 3, 0, 1);
        chance(x, 0, 4, 1, 4);
        HoundLicence y = Due.under("L122233M-20");
        chance(y, 0, 1, 1, 2);
        chance(y, 0, 2, 3, 4);
    }

    private static void chanceOfLateHours() {
        HoundLicence x = Due.under("L010123D001M000");
        chance(x, 0, 1, 0, 1);
        chance(x, 0, 2, 1, 4);
        chance(x, 0, 3, 1, 2);
    }

    private static void seed() {
        HoundLicence x = new HoundLicence();
        Due.is("seed(5)", x.seed(5), 0);
        Due.is("seed(-1)", x.seed(-1), 5);
        Due.is("seed(MIN)", x.seed(Long.MIN_VALUE), -1);
        Due.is("seed(0)", x.seed(0), Long.MIN_VALUE);
    }

    /** The days told hour by hour by acts on an object of their own. */
    private static int daysByActs(HoundLicence y, BigInteger[] seed, int m) {
        BigInteger all = BigInteger.ONE.shiftLeft(64);
        int caught = 0;
        for (int i = 0; i < m; i++) {
            seed[0] = seed[0].multiply(new BigInteger("6364136223846793005"))
                .add(new BigInteger("1442695040888963407")).mod(all);
            int drawn = seed[0].shiftRight(33).mod(BigInteger.valueOf(12)).intValue();
            y.lead(drawn / 3, drawn % 3);
            caught += Integer.bitCount(y.hour());
        }
        return caught;
    }

    private static void days() {
        String[] laws = {"L051234D001D102D313D401M000M111M-40M231M111", "L030120D003D111M001M000M-31",
            "L000000", "L120413D001M-41M001", "L063210D203M020M020M021M-11M-00"};
        for (String law : laws) {
            for (long from : new long[] {0, 1, 5, -1, 123456789012345L, Long.MIN_VALUE}) {
                for (int m : new int[] {1, 2, 9, 30}) {
                    days(law, from, m);
                }
            }
        }
    }

    private static void days(String law, long from, int m) {
        HoundLicence x = Due.under(law);
        HoundLicence y = Due.under(law);
        x.hour();
        y.hour();
        x.seed(from);
        String before = State.all(x);
        BigInteger[] seed = {BigInteger.valueOf(from).mod(BigInteger.ONE.shiftLeft(64))};
        int due = daysByActs(y, seed, m);
        Due.is("days(" + m + ") by " + law + " from " + from, x.days(m), due);
        Due.is("THE SEED behind it", x.seed(from), seed[0].longValue());
        Due.same("days change nothing else", State.all(x), before);
    }

    private static void daysOfTheSeed() {
        HoundLicence x = new HoundLicence();
        Due.is("days(1)", x.days(1), 0);
        Due.is("seed(9)", x.seed(9), 1442695040888963407L);
        Due.is("days(30)", x.days(30), 0);
        Due.is("days(1)", x.days(1), 0);
        Due.is("seed(0)", x.seed(0), 3965132133515300738L);
    }
}
