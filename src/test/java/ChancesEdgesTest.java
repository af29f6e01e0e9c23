import java.math.BigInteger;

/** The edges that promises 24 to 27 name, each with a test of its own. */
public final class ChancesEdgesTest {
    private static final int MIN = Integer.MIN_VALUE, MAX = Integer.MAX_VALUE;
    private static final long TIMES = 6364136223846793005L, AND = 1442695040888963407L;

    public static void main(String[] args) {
        rests();
        chance();
        seed();
        days();
        daysDrawn();
        Due.end();
    }

    private static void rests() {
        Due.edge("24: BAD: row (0 or more, five figures at most)", ChancesEdgesTest::restsBadRow);
        Due.edge("24: BAD: what", ChancesEdgesTest::restsBadWhat);
        Due.edge("24, RESTS: as many as there can be", () -> rests(0, 25, 0));
        Due.edge("24, RESTS: none; NONE", ChancesEdgesTest::restsNone);
        Due.edge("24, RESTS: (five figures, of STREETS 0 .. 4, the highest STREET 0's)", ChancesEdgesTest::restsByPlace);
        Due.edge("24, RESTS: worth (0 .. 9)", ChancesEdgesTest::restsByWorth);
        Due.edge("24: nothing is changed", () -> Twins.unchanged("rests(9, 1)", Twins::lively, x -> x.rests(9, 1)));
    }

    private static void rests(int row, int many, int first) {
        HoundLicence x = new HoundLicence();
        Due.is("rests(" + row + ", 0)", x.rests(row, 0), many);
        Due.is("rests(" + row + ", 1)", x.rests(row, 1), first);
    }

    private static void restsBadRow() {
        for (int row : new int[] {-1, 100000, MIN, MAX}) {
            Twins.refused("rests(" + row + ", 0)", x -> x.rests(row, 0), Due.BAD);
            Twins.refused("rests(" + row + ", 1)", x -> x.rests(row, 1), Due.BAD);
        }
        rests(0, 25, 0);
        rests(99999, 0, Due.NONE);
        rests(90000, 5, 0);
    }

    private static void restsBadWhat() {
        for (int what : new int[] {-1, 2, MIN, MAX}) {
            Twins.refused("rests(0, " + what + ")", x -> x.rests(0, what), Due.BAD);
            Twins.refused("rests(99999, " + what + ")", x -> x.rests(99999, what), Due.BAD);
        }
    }

    private static void restsNone() {
        for (int row : new int[] {11000, 10001, 91000, 11, 10010, 11111, 101, 90009, 12345}) {
            rests(row, 0, Due.NONE);
        }
    }

    private static void restsByPlace() {
        rests(90000, 5, 0);
        rests(9000, 5, 10);
        rests(900, 5, 20);
        rests(90, 5, 30);
        rests(9, 5, 40);
    }

    private static void restsByWorth() {
        for (int worth = 0; worth <= 9; worth++) {
            rests(worth * 1000, worth == 0 ? 25 : 5, worth == 0 ? 0 : 10);
        }
    }

    private static void chance() {
        Due.edge("25: UNKNOWN", ChancesEdgesTest::chanceUnknown);
        Due.edge("25: BAD: n", ChancesEdgesTest::chanceBad);
        Due.edge("25: UNKNOWN is told ahead of BAD", ChancesEdgesTest::chanceUnknownAheadOfBad);
        Due.edge("25, CHANCE: in n HOURS (0 ..", ChancesEdgesTest::chanceOfNone);
        Due.edge("25, CHANCE: in n HOURS (.. 24)", ChancesEdgesTest::chanceOfMost);
        Due.edge("25, FRACTIONS: in least terms, nought and one too", ChancesEdgesTest::chanceInLeastTerms);
        Due.edge("25, CHANCE: as likely by each of the four", ChancesEdgesTest::chanceOfEach);
        Due.edge("25, CHANCE: (from its number now on, round)", ChancesEdgesTest::chanceRound);
        Due.edge("25, CHANCE: the last MAN that there can be", ChancesEdgesTest::chanceOfLast);
        Due.edge("25: nothing is changed", () -> {
            Twins.unchanged("chance(1, 24, true)", Twins::lively, x -> x.chance(1, 24, true));
            Twins.unchanged("chance(3, 24, false)", Twins::lively, x -> x.chance(3, 24, false));
        });
    }

    private static void chance(HoundLicence x, int man, int n, int above, int below) {
        Due.is("chance(" + man + ", " + n + ", true)", x.chance(man, n, true), above);
        Due.is("chance(" + man + ", " + n + ", false)", x.chance(man, n, false), below);
    }

    private static void chanceUnknown() {
        for (int man : new int[] {-1, 4, 5, 32, MIN, MAX}) {
            Twins.refused("chance(" + man + ", 1, true)", x -> x.chance(man, 1, true), Due.UNKNOWN);
            Twins.refused("chance(" + man + ", 1, false)", x -> x.chance(man, 1, false), Due.UNKNOWN);
        }
        for (int men = 0; men < 5; men++) {
            HoundLicence x = Due.under("L120000" + "M-00".repeat(men));
            Due.is("chance(" + men + ", 1, true)", x.chance(men, 1, true), Due.UNKNOWN);
        }
    }

    private static void chanceBad() {
        for (int n : new int[] {-1, 25, MIN, MAX}) {
            Twins.refused("chance(0, " + n + ", true)", x -> x.chance(0, n, true), Due.BAD);
            Twins.refused("chance(3, " + n + ", false)", x -> x.chance(3, n, false), Due.BAD);
        }
    }

    private static void chanceUnknownAheadOfBad() {
        Twins.refused("chance(4, 25, true)", x -> x.chance(4, 25, true), Due.UNKNOWN);
        Twins.refused("chance(-1, -1, false)", x -> x.chance(-1, -1, false), Due.UNKNOWN);
    }

    private static void chanceOfNone() {
        HoundLicence x = Due.under("L000000M-00");
        chance(x, 0, 0, 0, 1);
        chance(x, 0, 1, 1, 1);
        x.hour();
        chance(x, 0, 0, 0, 1);
        chance(x, 0, 3, 0, 1);
        chance(x, 0, 4, 1, 1);
    }

    private static void chanceOfMost() {
        HoundLicence x = Due.under("L110000D001M000M-10");
        chance(x, 0, 11, 0, 1);
        chance(x, 0, 12, 1, 1);
        chance(x, 0, 24, 1, 1);
        chance(x, 1, 24, 0, 1);
    }

    private static void chanceInLeastTerms() {
        HoundLicence x = Due.under("L120123M-00M-10M-20M-30M-40");
        int[][] due = {{0, 1}, {1, 4}, {1, 2}, {3, 4}, {1, 1}, {1, 1}};
        for (int n = 0; n < due.length; n++) {
            for (int man = 0; man < 4; man++) {
                chance(x, man, n, due[n][0], due[n][1]);
            }
            chance(x, 4, n, 0, 1);
        }
    }

    private static void chanceOfEach() {
        chance(Due.under("L121000M-00"), 0, 1, 3, 4);
        chance(Due.under("L121100M-00"), 0, 1, 1, 2);
        chance(Due.under("L121110M-00"), 0, 1, 1, 4);
        chance(Due.under("L121111M-00"), 0, 1, 0, 1);
        chance(Due.under("L120000M-00"), 0, 1, 1, 1);
        chance(Due.under("L121010M-00"), 0, 2, 1, 1);
    }

    private static void chanceRound() {
        for (int hours = 0; hours < 9; hours++) {
            HoundLicence x = Due.under("L121200D001M001");
            x.leash(0);
            Due.hours(x, hours);
            x.leash(0);
            chance(x, 0, 1, 1, 2);
            chance(x, 0, 2, 3, 4);
            chance(x, 0, 3, 1, 1);
        }
    }

    private static void chanceOfLast() {
        HoundLicence x = Due.under("L120000M-10M-10M-10M-10M-00");
        chance(x, 4, 1, 1, 1);
        chance(x, 3, 1, 0, 1);
        Due.is("chance(5, 1, true)", x.chance(5, 1, true), Due.UNKNOWN);
    }

    private static void seed() {
        Due.edge("26: THE SEED is v: what it was: the least and the most", () -> {
            HoundLicence x = new HoundLicence();
            long was = 0;
            for (long v : new long[] {1, -1, Long.MIN_VALUE, Long.MAX_VALUE, 1L << 32, 0, 0, -9}) {
                Due.is("seed(" + v + ")", x.seed(v), was);
                was = v;
            }
        });
        Due.edge("26: nothing else is changed", () -> Twins.unchanged("seed(1) and back", Twins::lively, x -> {
            x.seed(x.seed(1));
            return 0;
        }));
    }

    private static void days() {
        Due.edge("27: BAD: m", ChancesEdgesTest::daysBad);
        Due.edge("27, DAYS: m HOURS (1 .. 30): THE SEED goes on by each", ChancesEdgesTest::daysOfTheSeed);
        Due.edge("27, DAYS: how many were caught, all HOURS together", ChancesEdgesTest::daysCaught);
        Due.edge("27, DAYS: THE ROUND goes on from where it is", ChancesEdgesTest::daysByRound);
        Due.edge("27, DAYS: (64 bits, wrapping)", ChancesEdgesTest::daysWrap);
        Due.edge("27, DAYS: (Nothing changes but THE SEED.)", ChancesEdgesTest::daysChangeTheSeedAlone);
    }

    private static void daysBad() {
        for (int m : new int[] {0, 31, -1, MIN, MAX}) {
            Twins.refused("days(" + m + ")", x -> x.days(m), Due.BAD);
        }
        HoundLicence x = new HoundLicence();
        x.days(0);
        x.days(31);
        Due.is("seed(0) behind what is refused", x.seed(0), 0);
    }

    private static void daysOfTheSeed() {
        long seed = 77;
        for (int m = 1; m <= 30; m++) {
            seed = seed * TIMES + AND;
            HoundLicence x = new HoundLicence();
            x.seed(77);
            Due.is("days(" + m + ")", x.days(m), 0);
            Due.is("THE SEED behind days(" + m + ")", x.seed(0), seed);
        }
    }

    private static void daysCaught() {
        HoundLicence x = Due.under("L120000M-00M-00M-00M-00M-00");
        int[] due = {1, 5, 4, 5, 5, 10, 8, 10, 9, 15, 29, 40, 30, 40};
        for (int i = 0; i < due.length; i += 2) {
            Due.is("days(" + due[i] + ")", x.days(due[i]), due[i + 1]);
        }
        x.hour();
        Due.is("days(3) of the IMPOUNDED", x.days(3), 0);
        Due.is("days(4) of the IMPOUNDED", x.days(4), 5);
        Due.is("days(30) of nobody", new HoundLicence().days(30), 0);
    }

    private static void daysByRound() {
        HoundLicence x = Due.under("L121023M-00");
        int[] due = {1, 0, 2, 1, 5, 1, 6, 2, 30, 8};
        for (int i = 0; i < due.length; i += 2) {
            Due.is("days(" + due[i] + ")", x.days(due[i]), due[i + 1]);
        }
        x.hour();
        Due.is("days(1) at 1", x.days(1), 1);
    }

    private static void daysWrap() {
        BigInteger all = BigInteger.ONE.shiftLeft(64);
        for (long seed : new long[] {Long.MAX_VALUE, Long.MIN_VALUE, -1, 0, 1, 1L << 62, 3L << 62}) {
            HoundLicence x = new HoundLicence();
            x.seed(seed);
            x.days(1);
            long due = BigInteger.valueOf(seed).multiply(BigInteger.valueOf(TIMES)).add(BigInteger.valueOf(AND)).mod(all)
                .longValue();
            Due.is("THE SEED behind " + seed, x.seed(0), due);
        }
    }

    private static void daysChangeTheSeedAlone() {
        for (int m : new int[] {1, 30}) {
            Twins.unchanged("days(" + m + ") with THE SEED put back", Twins::lively, x -> {
                x.days(m);
                return x.seed(77);
            });
        }
    }

    private static void daysDrawn() {
        Due.edge("27, DAYS: that by 3 (down) is a DOG, what is left by 3 how it goes", ChancesEdgesTest::drawnGoes);
        Due.edge("27, DAYS: if there is such a one", ChancesEdgesTest::drawnIsThere);
        Due.edge("27, DAYS: what is left of its upper 31 bits by 12", ChancesEdgesTest::drawnFromUpperBits);
        Due.edge("27, DAYS: ahead of each: on the second HOUR too", ChancesEdgesTest::drawnOnTheSecond);
    }

    /** THE SEED from which the next one is this. */
    private static long seedAhead(long next) {
        BigInteger all = BigInteger.ONE.shiftLeft(64);
        return BigInteger.valueOf(next).subtract(BigInteger.valueOf(AND))
            .multiply(BigInteger.valueOf(TIMES).modInverse(all)).mod(all).longValue();
    }

    private static long upper(long bits) {
        return seedAhead(bits << 33);
    }

    /** Four DOGS on 0, one of which keeps one that sings; THE WARDEN stays on a STREET. */
    private static HoundLicence keptBy(int dog, int warden) {
        return Due.under("L12" + ("" + warden).repeat(4) + "D001D001D001D001M" + dog + "01");
    }

    private static void drawnGoes() {
        for (int drawn = 0; drawn < 12; drawn++) {
            for (int dog = 0; dog < 4; dog++) {
                int street = drawn == 3 * dog + 1 ? 1 : drawn == 3 * dog + 2 ? 4 : 0;
                for (int warden : new int[] {0, 1, 4}) {
                    HoundLicence x = keptBy(dog, warden);
                    x.seed(upper(drawn));
                    Due.is("days(1) by " + drawn + ", DOG " + dog + ", THE WARDEN on " + warden, x.days(1),
                        warden == street ? 1 : 0);
                    Due.is("THE SEED behind it", x.seed(0), (long) drawn << 33);
                }
            }
        }
    }

    private static void drawnIsThere() {
        for (int dogs = 1; dogs <= 4; dogs++) {
            HoundLicence x = Due.under("L124444" + "D001".repeat(dogs) + "M" + (dogs - 1) + "01");
            for (int drawn = 0; drawn < 12; drawn++) {
                x.seed(upper(drawn));
                Due.is("days(1) by " + drawn + " with DOGS " + dogs, x.days(1), drawn == 3 * dogs - 1 ? 1 : 0);
            }
        }
        HoundLicence nobody = Due.under("L120000M-00");
        for (int drawn = 0; drawn < 12; drawn++) {
            nobody.seed(upper(drawn));
            Due.is("days(1) by " + drawn + " without DOGS", nobody.days(1), 1);
        }
    }

    private static void drawnFromUpperBits() {
        long most = (1L << 31) - 1;
        for (long bits : new long[] {0, 1, 11, 12, 13, 23, 24, 1L << 30, (1L << 30) + 1, most - 1, most}) {
            int drawn = (int) (bits % 12);
            for (long lower : new long[] {0, 1, 1L << 32, (1L << 33) - 1}) {
                for (int dog = 0; dog < 4; dog++) {
                    HoundLicence x = keptBy(dog, 1);
                    x.seed(seedAhead((bits << 33) + lower));
                    Due.is("days(1) by " + bits + " and " + lower + ", DOG " + dog, x.days(1),
                        drawn == 3 * dog + 1 ? 1 : 0);
                }
            }
        }
    }

    private static void drawnOnTheSecond() {
        long first = upper(1);
        int second = (int) ((((1L << 33) * TIMES + AND) >>> 33) % 12);
        for (int warden = 0; warden < 5; warden++) {
            HoundLicence x = Due.under("L123" + warden + "33D001M001");
            x.seed(first);
            int street = second == 1 ? 2 : second == 2 ? 0 : 1;
            Due.is("days(2) with THE WARDEN on " + warden + " then", x.days(2), warden == street ? 1 : 0);
        }
    }
}
