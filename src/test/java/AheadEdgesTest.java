import java.util.function.Supplier;

/** The edges that promises 14 to 19 name, each with a test of its own. */
public final class AheadEdgesTest {
    private static final int MIN = Integer.MIN_VALUE, MAX = Integer.MAX_VALUE;

    public static void main(String[] args) {
        caught();
        routes();
        routesPastTheWarden();
        aired();
        heir();
        pays();
        spans();
        Due.end();
    }

    private static void caught() {
        Due.edge("14: BAD: n", AheadEdgesTest::caughtRefused);
        Due.edge("14: n HOURS (0 ..", AheadEdgesTest::caughtInNone);
        Due.edge("14: n HOURS (.. 24)", AheadEdgesTest::caughtInMost);
        Due.edge("14: as bits: nobody, all that there can be", AheadEdgesTest::caughtNobodyAndAll);
        Due.edge("14, CAUGHT: from now on", AheadEdgesTest::caughtFromNowOn);
        Due.edge("14, Terms: an HOUR begins again by 12, THE ROUND by 4", AheadEdgesTest::caughtBegunAgain);
        Due.edge("14: nothing is changed", () -> Twins.unchanged("caught(24)", Twins::lively, x -> x.caught(24)));
    }

    private static void caughtRefused() {
        for (int n : new int[] {-1, 25, MIN, MAX}) {
            Twins.refused("caught(" + n + ")", x -> x.caught(n), Due.BAD);
            Due.is("caught(" + n + ") of nobody", new HoundLicence().caught(n), Due.BAD);
        }
    }

    private static void caughtInNone() {
        HoundLicence x = Due.under("L000000D003M001M-00");
        Due.is("caught(0)", x.caught(0), 0);
        Due.is("caught(1)", x.caught(1), 3);
        Due.is("hour()", x.hour(), 3);
        Due.is("caught(0) behind it", x.caught(0), 0);
    }

    private static void caughtInMost() {
        HoundLicence x = Due.under("L110000D001M000M-10");
        Due.is("caught(23)", x.caught(23), 1);
        Due.is("caught(24)", x.caught(24), 1);
    }

    private static void caughtNobodyAndAll() {
        Due.is("caught(24) of nobody", new HoundLicence().caught(24), 0);
        HoundLicence x = Due.under("L121234D003M001M-10M-20M-30M-40");
        x.lead(0, 1);
        Due.row("caught(#)", x::caught, 0, 3, 7, 15, 31, 31);
        Due.is("caught(24)", x.caught(24), 31);
    }

    private static void caughtFromNowOn() {
        HoundLicence x = Due.under("L120000M-00");
        Due.is("hour()", x.hour(), 1);
        Due.row("caught(#) of who is IMPOUNDED", x::caught, 0, 0, 0, 0, 1, 1);
        Due.hours(x, 2);
        Due.row("caught(#) of one with an HOUR left", x::caught, 0, 0, 1);
        x.hour();
        Due.row("caught(#) of who is free", x::caught, 0, 1);
    }

    private static void caughtBegunAgain() {
        HoundLicence x = Due.under("L014440D001M000");
        x.leash(0);
        Due.hours(x, 10);
        x.leash(0);
        Due.row("caught(#) at 10", x::caught, 0, 0, 1);
        x.leash(0);
        Due.hours(x, 2);
        x.leash(0);
        Due.row("caught(#) at 12", x::caught, 0, 0, 0, 0, 1);
        HoundLicence y = Due.under("L110000D001M000");
        y.leash(0);
        Due.hours(y, 12);
        y.leash(0);
        Due.is("caught(11) at 12", y.caught(11), 0);
        Due.is("caught(12) at 12", y.caught(12), 1);
    }

    private static void routes() {
        Due.edge("15: UNKNOWN", AheadEdgesTest::routesUnknown);
        Due.edge("15: BAD: n", AheadEdgesTest::routesBadHours);
        Due.edge("15: BAD: street", AheadEdgesTest::routesBadStreet);
        Due.edge("15: BAD: what", AheadEdgesTest::routesBadWhat);
        Due.edge("15: UNKNOWN is told ahead of BAD", AheadEdgesTest::routesUnknownAheadOfBad);
        Due.edge("15, ROUTES: rows of n figures (1 .. 7)", AheadEdgesTest::routesByHours);
        Due.edge("15, Terms: a ring (0 is behind 4)", AheadEdgesTest::routesOnTheRing);
        Due.edge("15: the first one as figures; NONE", AheadEdgesTest::routesFirst);
        Due.edge("15: how many: none", AheadEdgesTest::routesNone);
        Due.edge("15: nothing is changed", AheadEdgesTest::routesChangeNothing);
    }

    private static void routesUnknown() {
        for (int dog : new int[] {-1, 4, 5, MIN, MAX}) {
            Twins.refused("routes(" + dog + ", 1, 0, 0)", x -> x.routes(dog, 1, 0, 0), Due.UNKNOWN);
        }
        for (int dogs = 0; dogs < 4; dogs++) {
            HoundLicence x = Due.under("L120000" + "D001".repeat(dogs));
            Due.is("routes(" + dogs + ", 1, 0, 0)", x.routes(dogs, 1, 0, 0), Due.UNKNOWN);
        }
        Due.is("routes(3, 1, 0, 0)", Due.under("L120000D101D101D101D001").routes(3, 1, 0, 0), 1);
    }

    private static void routesBadHours() {
        for (int n : new int[] {0, 8, -1, MIN, MAX}) {
            Twins.refused("routes(0, " + n + ", 0, 0)", x -> x.routes(0, n, 0, 0), Due.BAD);
            Twins.refused("routes(0, " + n + ", 0, 1)", x -> x.routes(0, n, 0, 1), Due.BAD);
        }
    }

    private static void routesBadStreet() {
        for (int street : new int[] {-1, 5, MIN, MAX}) {
            Twins.refused("routes(0, 1, " + street + ", 0)", x -> x.routes(0, 1, street, 0), Due.BAD);
            Twins.refused("routes(0, 7, " + street + ", 1)", x -> x.routes(0, 7, street, 1), Due.BAD);
        }
    }

    private static void routesBadWhat() {
        for (int what : new int[] {-1, 2, MIN, MAX}) {
            Twins.refused("routes(0, 1, 0, " + what + ")", x -> x.routes(0, 1, 0, what), Due.BAD);
        }
    }

    private static void routesUnknownAheadOfBad() {
        Twins.refused("routes(4, 0, 0, 0)", x -> x.routes(4, 0, 0, 0), Due.UNKNOWN);
        Twins.refused("routes(-1, 1, 5, 0)", x -> x.routes(-1, 1, 5, 0), Due.UNKNOWN);
        Twins.refused("routes(4, 1, 0, 2)", x -> x.routes(4, 1, 0, 2), Due.UNKNOWN);
    }

    private static void routesByHours() {
        HoundLicence x = Due.under("L120000D201");
        int all = 1;
        for (int n = 1; n <= 7; n++) {
            int sum = 0;
            for (int street = 0; street < 5; street++) {
                sum += x.routes(0, n, street, 0);
            }
            all *= 3;
            Due.is("routes of " + n + " to all STREETS", sum, all);
        }
    }

    private static void routesOnTheRing() {
        for (int from = 0; from < 5; from++) {
            HoundLicence x = Due.under("L120000D" + from + "01");
            int[] many = {1, 1, 0, 0, 1};
            int[] first = {0, 1, Due.NONE, Due.NONE, 2};
            int[] firstOfTwo = {0, 1, 11, 22, 2};
            for (int far = 0; far < 5; far++) {
                int to = (from + far) % 5;
                Due.is("routes(0, 1, " + to + ", 0) from " + from, x.routes(0, 1, to, 0), many[far]);
                Due.is("routes(0, 1, " + to + ", 1) from " + from, x.routes(0, 1, to, 1), first[far]);
                Due.is("routes(0, 2, " + to + ", 1) from " + from, x.routes(0, 2, to, 1), firstOfTwo[far]);
            }
        }
    }

    private static void routesFirst() {
        HoundLicence x = Due.under("L120000D001");
        Due.row("routes(0, 7, #, 1)", street -> x.routes(0, 7, street, 1), 0, 1, 11, 22, 2);
        Due.is("routes(0, 1, 2, 1)", x.routes(0, 1, 2, 1), Due.NONE);
        HoundLicence y = Due.under("L004040D301M030");
        Due.is("routes(0, 1, 2, 1)", y.routes(0, 1, 2, 1), 2);
        Due.is("routes(0, 2, 2, 1)", y.routes(0, 2, 2, 1), 2);
        HoundLicence z = Due.under("L000000D001M000");
        Due.row("routes(0, 7, #, 1) off 0", street -> z.routes(0, 7, street, 1), Due.NONE, 1000000, 1000001, 1000011,
            1000111);
        HoundLicence v = Due.under("L000101D001M000");
        Due.is("routes(0, 1, 4, 1)", v.routes(0, 1, 4, 1), 2);
        Due.is("routes(0, 7, 4, 1)", v.routes(0, 7, 4, 1), 1100011);
    }

    private static void routesNone() {
        HoundLicence x = Due.under("L000000D001M000");
        Due.is("routes(0, 1, 0, 0)", x.routes(0, 1, 0, 0), 0);
        Due.is("routes(0, 1, 0, 1)", x.routes(0, 1, 0, 1), Due.NONE);
        Due.is("routes(0, 7, 0, 0)", x.routes(0, 7, 0, 0), 0);
        Due.is("routes(0, 7, 0, 1)", x.routes(0, 7, 0, 1), Due.NONE);
    }

    private static void routesChangeNothing() {
        Twins.unchanged("routes(0, 7, 2, 0)", Twins::lively, x -> x.routes(0, 7, 2, 0));
        Twins.unchanged("routes(1, 7, 2, 1)", Twins::lively, x -> x.routes(1, 7, 2, 1));
    }

    private static void routesPastTheWarden() {
        Due.edge("15, ROUTES: none is caught: on the first HOUR, on the last", AheadEdgesTest::routesFirstAndLastHour);
        Due.edge("15, ROUTES: none of the MEN that it keeps now", AheadEdgesTest::routesOfItsMenAlone);
        Due.edge("15, ROUTES: who is IMPOUNDED is not caught, nor on the HOUR when it is free",
            AheadEdgesTest::routesOfTheImpounded);
        Due.edge("15, ROUTES: an HOUR that is LATE, first and last", AheadEdgesTest::routesWhileLate);
        Due.edge("15, ROUTES: n HOURS over the end of THE ROUND", AheadEdgesTest::routesOverTheRound);
    }

    private static void routesFirstAndLastHour() {
        HoundLicence first = Due.under("L122000D201M021");
        Due.is("routes(0, 1, 2, 0)", first.routes(0, 1, 2, 0), 0);
        Due.is("routes(0, 2, 2, 0)", first.routes(0, 2, 2, 0), 2);
        Due.is("routes(0, 2, 2, 1)", first.routes(0, 2, 2, 1), 12);
        HoundLicence last = Due.under("L120002D201M021");
        Due.is("routes(0, 3, 2, 0)", last.routes(0, 3, 2, 0), 7);
        Due.is("routes(0, 4, 2, 0)", last.routes(0, 4, 2, 0), 0);
    }

    private static void routesOfItsMenAlone() {
        HoundLicence x = Due.under("L000000D003D003M000M100M-00");
        Due.is("with one of three", x.routes(0, 1, 0, 0), 0);
        x.leash(0);
        Due.is("with it leashed", x.routes(0, 1, 0, 0), 1);
        Due.is("the other's", x.routes(1, 1, 0, 0), 0);
        x.give(2, 0);
        Due.is("with one that was a BACHELOR", x.routes(0, 1, 0, 0), 0);
        x.leash(2);
        Due.is("with all leashed", x.routes(0, 1, 0, 0), 1);
        x.give(1, 0);
        Due.is("with one of three that is not", x.routes(0, 1, 0, 0), 0);
        Due.is("with none any more", x.routes(1, 1, 0, 0), 1);
    }

    private static void routesOfTheImpounded() {
        HoundLicence x = Due.under("L120000D001M001");
        x.hour();
        for (int left = 3; left >= 0; left--) {
            Due.is("man(0, 4)", x.man(0, 4), left);
            if (left > 0) {
                int rows = new int[] {1, 3, 7}[left - 1];
                Due.is("routes(0, " + left + ", 0, 0)", x.routes(0, left, 0, 0), rows);
            }
            Due.is("routes(0, " + (left + 1) + ", 0, 0)", x.routes(0, left + 1, 0, 0), 0);
            x.hour();
        }
    }

    private static void routesWhileLate() {
        HoundLicence x = Due.under("L011111D101M010");
        Due.is("routes(0, 1, 1, 0) ahead of LATE", x.routes(0, 1, 1, 0), 1);
        Due.is("routes(0, 2, 1, 0) into LATE", x.routes(0, 2, 1, 0), 0);
        x.leash(0);
        Due.hours(x, 11);
        x.leash(0);
        Due.is("routes(0, 1, 1, 0) in the last that is LATE", x.routes(0, 1, 1, 0), 0);
        Due.is("routes(0, 2, 1, 0) out of LATE", x.routes(0, 2, 1, 0), 2);
        Due.is("routes(0, 2, 1, 1) out of LATE", x.routes(0, 2, 1, 1), 12);
        Due.is("routes(0, 3, 1, 0) into LATE again", x.routes(0, 3, 1, 0), 0);
    }

    private static void routesOverTheRound() {
        HoundLicence x = Due.under("L123444D301M031");
        x.leash(0);
        Due.hours(x, 3);
        x.leash(0);
        Due.is("routes(0, 1, 3, 0) with THE WARDEN on 4", x.routes(0, 1, 3, 0), 1);
        Due.is("routes(0, 1, 4, 0) with THE WARDEN on 4", x.routes(0, 1, 4, 0), 0);
        Due.is("routes(0, 2, 3, 0) with THE WARDEN on 3 then", x.routes(0, 2, 3, 0), 0);
        Due.is("routes(0, 2, 4, 0) with THE WARDEN on 3 then", x.routes(0, 2, 4, 0), 1);
    }

    private static void aired() {
        Due.edge("16: UNKNOWN", AheadEdgesTest::airedUnknown);
        Due.edge("16, AIRED: (that on which it is now counts): four are the fewest", AheadEdgesTest::airedFewest);
        Due.edge("16, AIRED: the fewest HOURS (.. 7); NONE: it takes eight", AheadEdgesTest::airedMost);
        Due.edge("16, AIRED: NONE: a STREET is never free", AheadEdgesTest::airedNever);
        Due.edge("16, AIRED: never on a STREET on which a DOG of its RANK is", AheadEdgesTest::airedRivals);
        Due.edge("16, AIRED: never (now ..)", AheadEdgesTest::airedRivalNow);
        Due.edge("16, AIRED: by such a row: the last HOUR too", AheadEdgesTest::airedLastHour);
        Due.edge("16, AIRED: the fewest HOURS: four, five, six", AheadEdgesTest::airedPastTheWarden);
        Due.edge("16, Terms: a ring (0 is behind 4): whichever STREET is the last", AheadEdgesTest::airedEndsAnywhere);
        Due.edge("16: nothing is changed", () -> {
            Twins.unchanged("aired(0)", Twins::lively, x -> x.aired(0));
            Twins.unchanged("aired(3)", Twins::lively, x -> x.aired(3));
        });
    }

    private static void airedUnknown() {
        for (int dog : new int[] {-1, 4, 5, MIN, MAX}) {
            Twins.refused("aired(" + dog + ")", x -> x.aired(dog), Due.UNKNOWN);
        }
        for (int dogs = 0; dogs < 4; dogs++) {
            Due.is("aired(" + dogs + ")", Due.under("L120000" + "D001".repeat(dogs)).aired(dogs), Due.UNKNOWN);
        }
        Due.is("aired(3)", Due.under("L120000D001D001D001D011").aired(3), 4);
    }

    private static void airedFewest() {
        for (int street = 0; street < 5; street++) {
            Due.is("aired(0) from " + street, Due.under("L120000D" + street + "01").aired(0), 4);
        }
    }

    /** On HOURS 6 .. 11 the DOG must not go to 1, on HOUR 12 it can. */
    private static void airedMost() {
        HoundLicence x = Due.under("L011111D001M000");
        Due.hours(x, 5);
        Due.is("aired(0) at 5: in eight", x.aired(0), Due.NONE);
        x.hour();
        Due.is("aired(0) at 6: in seven", x.aired(0), 7);
        x.hour();
        Due.is("aired(0) at 7: in six", x.aired(0), 6);
        x.hour();
        Due.is("aired(0) at 8: in five", x.aired(0), 5);
        x.hour();
        Due.is("aired(0) at 9: in four", x.aired(0), 4);
    }

    private static void airedNever() {
        Due.is("aired(0) with one that sings", Due.under("L121111D001M001").aired(0), Due.NONE);
        Due.is("aired(0) with it caught where it is", Due.under("L120000D001M001").aired(0), 4);
        Due.is("aired(0) with nobody", Due.under("L121111D001").aired(0), 4);
    }

    private static void airedRivals() {
        for (int street = 0; street < 5; street++) {
            HoundLicence x = Due.under("L120000D051D" + street + "51");
            Due.is("aired(0) with one of its RANK on " + street, x.aired(0), Due.NONE);
            Due.is("aired(1) with one of its RANK", x.aired(1), Due.NONE);
        }
        Due.is("aired(0) with one less", Due.under("L120000D051D141").aired(0), 4);
        Due.is("aired(0) with one more", Due.under("L120000D051D161").aired(0), 4);
        Due.is("aired(0) with the fourth of its RANK", Due.under("L120000D051D161D141D251").aired(0), Due.NONE);
        Due.is("aired(3) with the first of its RANK", Due.under("L120000D051D161D141D251").aired(3), Due.NONE);
        Due.is("aired(1) of that law", Due.under("L120000D051D161D141D251").aired(1), 4);
    }

    private static void airedRivalNow() {
        Due.is("aired(0)", Due.under("L120000D201D201").aired(0), Due.NONE);
        Due.is("aired(0) with another RANK there", Due.under("L120000D201D211").aired(0), 4);
    }

    private static void airedLastHour() {
        Due.is("aired(0), 4 barred on the fourth", Due.under("L124004D001M001").aired(0), 5);
        Due.is("aired(0), 4 free on the fourth", Due.under("L124003D001M001").aired(0), 4);
        HoundLicence x = Due.under("L124004D001M001");
        x.leash(0);
        Due.is("aired(0) with it leashed", x.aired(0), 4);
    }

    /** THE ROUND and the DOG's STREET, told together. */
    private static void airedPast(int due, String... rounds) {
        for (String told : rounds) {
            String street = told.substring(4);
            String law = "L00" + told.substring(0, 4) + "D" + street + "01M0" + street + "0";
            Due.is("aired(0) by " + law, Due.under(law).aired(0), due);
        }
    }

    private static void airedPastTheWarden() {
        airedPast(4, "20131", "34144", "23102", "13232", "33231", "12211", "03214", "11241", "41011", "10432", "11044");
        airedPast(5, "04401", "03134", "20421", "24133", "13000", "21104", "31023", "03021", "31402", "13020", "00143");
        airedPast(6, "34442", "12042", "43023", "21311", "41413", "40320", "32402", "01401", "24331", "44330", "12032");
    }

    private static void airedEndsAnywhere() {
        for (int street = 0; street < 5; street++) {
            int next = (street + 1) % 5;
            int before = (street + 4) % 5;
            airedPast(4, "" + before + street + street + street + street);
            airedPast(4, "" + next + street + street + street + street);
        }
    }

    private static void heir() {
        Due.edge("17: UNKNOWN", AheadEdgesTest::heirUnknown);
        Due.edge("17: NONE: none is of its kin", AheadEdgesTest::heirNone);
        Due.edge("17, HEIR: of the least degree", AheadEdgesTest::heirByDegree);
        Due.edge("17, HEIR: of like ones that of greater RANK", AheadEdgesTest::heirByRank);
        Due.edge("17, HEIR: then the lesser number", AheadEdgesTest::heirByNumber);
        Due.edge("17, HEIR: (how many steps from parent to child or back lie between)", AheadEdgesTest::heirSteps);
        Due.edge("17: nothing is changed", () -> Twins.unchanged("heir(1)", Twins::lively, x -> x.heir(1)));
    }

    private static void heirs(String law, int... due) {
        HoundLicence x = Due.under(law);
        Due.row("heir(#) by " + law, x::heir, due);
    }

    private static void heirUnknown() {
        for (int dog : new int[] {-1, 4, 5, MIN, MAX}) {
            Twins.refused("heir(" + dog + ")", x -> x.heir(dog), Due.UNKNOWN);
        }
        heirs("L120000", Due.UNKNOWN);
        heirs("L120000D001", Due.NONE, Due.UNKNOWN);
        heirs("L120000D001D001D001P02", 2, Due.NONE, 0, Due.UNKNOWN);
    }

    private static void heirNone() {
        heirs("L120000D001D001D001D001", Due.NONE, Due.NONE, Due.NONE, Due.NONE);
        heirs("L120000D001D001D001D001P03", 3, Due.NONE, Due.NONE, 0);
        heirs("L120000D001D001D001D001P03P21", 3, 2, 1, 0);
    }

    private static void heirByDegree() {
        heirs("L120000D001D001D091D001P01P12", 1, 2, 1, Due.NONE);
        heirs("L120000D001D001D001D091P01P12P23", 1, 0, 3, 2);
        heirs("L120000D091D001D001D001P32P21P10", 1, 0, 1, 2);
    }

    private static void heirByRank() {
        heirs("L120000D001D081D091P01P02", 2, 0, 0);
        heirs("L120000D001D091D081P01P02", 1, 0, 0);
        heirs("L120000D011D001D021P01P12", 1, 2, 1);
        heirs("L120000D021D001D011P01P12", 1, 0, 1);
    }

    private static void heirByNumber() {
        heirs("L120000D001D051D051D051P01P02P03", 1, 0, 0, 0);
        heirs("L120000D051D051D051P02P21", 2, 2, 0);
        heirs("L120000D051D051D051P12P20", 2, 2, 0);
        heirs("L120000D051D051D051D001P30P31P32", 3, 3, 3, 0);
    }

    private static void heirSteps() {
        heirs("L120000D001D001D091D091P01P12P03", 3, 2, 1, 0);
        heirs("L120000D091D001D001D001P01P02P23", 1, 0, 0, 2);
    }

    private static void pays() {
        Due.edge("18: BAD: h", AheadEdgesTest::paysBadLeash);
        Due.edge("18: BAD: n", AheadEdgesTest::paysBadHours);
        Due.edge("18, PAYS: LEASH h (0 .. 12)", AheadEdgesTest::paysByLeash);
        Due.edge("18, PAYS: in n HOURS (0 .. 24)", AheadEdgesTest::paysByHours);
        Due.edge("18, PAYS: from now on", AheadEdgesTest::paysFromNowOn);
        Due.edge("18, PAYS: THE ROUND goes on from where it is", AheadEdgesTest::paysByRound);
        Due.edge("18, PAYS: all DOGS: as much as there can be", AheadEdgesTest::paysMost);
        Due.edge("18, PAYS: nobody pays for a BACHELOR", AheadEdgesTest::paysOfBachelors);
        Due.edge("18: nothing is changed", () -> {
            Twins.unchanged("pays(0, 24)", Twins::lively, x -> x.pays(0, 24));
            Due.is("LEASH", leashBehindPays(), 5);
        });
    }

    private static int leashBehindPays() {
        HoundLicence x = Twins.lively();
        x.pays(0, 24);
        return x.about(2);
    }

    private static void paysBadLeash() {
        for (int h : new int[] {-1, 13, MIN, MAX}) {
            Twins.refused("pays(" + h + ", 0)", x -> x.pays(h, 0), Due.BAD);
            Twins.refused("pays(" + h + ", 24)", x -> x.pays(h, 24), Due.BAD);
        }
    }

    private static void paysBadHours() {
        for (int n : new int[] {-1, 25, MIN, MAX}) {
            Twins.refused("pays(0, " + n + ")", x -> x.pays(0, n), Due.BAD);
            Twins.refused("pays(12, " + n + ")", x -> x.pays(12, n), Due.BAD);
        }
    }

    /** One MAN that does not sing, where THE WARDEN stays: caught as soon as it is LATE and not IMPOUNDED. */
    private static HoundLicence caughtWhenLate(String leash) {
        return Due.under("L" + leash + "0000D001M000");
    }

    private static void paysByLeash() {
        for (String leash : new String[] {"00", "05", "12"}) {
            HoundLicence x = caughtWhenLate(leash);
            Due.row("pays(#, 12) by LEASH " + leash, h -> x.pays(h, 12), 6, 6, 6, 6, 4, 4, 4, 4, 2, 2, 2, 2, 0);
        }
    }

    private static void paysByHours() {
        HoundLicence x = caughtWhenLate("12");
        Due.row("pays(0, #)", n -> x.pays(0, n), 0, 2, 2, 2, 2, 4, 4, 4, 4, 6);
        Due.is("pays(11, 11)", x.pays(11, 11), 0);
        Due.is("pays(11, 12)", x.pays(11, 12), 2);
        Due.is("pays(11, 23)", x.pays(11, 23), 2);
        Due.is("pays(11, 24)", x.pays(11, 24), 4);
        Due.is("pays(12, 24)", x.pays(12, 24), 0);
        Due.is("pays(0, 24)", x.pays(0, 24), 12);
    }

    private static void paysFromNowOn() {
        HoundLicence x = caughtWhenLate("00");
        x.hour();
        Due.is("about(7)", x.about(7), 2);
        Due.row("pays(0, #)", n -> x.pays(0, n), 0, 0, 0, 0, 2, 2, 2, 2, 4);
        HoundLicence y = caughtWhenLate("12");
        Due.hours(y, 12);
        Due.row("pays(3, #) at 12", n -> y.pays(3, n), 0, 0, 0, 0, 2);
    }

    private static void paysByRound() {
        HoundLicence x = Due.under("L121013D001M001");
        Due.row("pays(12, #)", n -> x.pays(12, n), 0, 0, 2, 2, 2, 2, 4);
        x.lead(0, 2);
        Due.hours(x, 3);
        x.lead(0, 2);
        Due.row("pays(12, #) at 3", n -> x.pays(12, n), 0, 2, 2, 2, 2, 4);
    }

    private static void paysMost() {
        HoundLicence x = Due.under("L120000D002D001D001D001M001M000M101M200M301");
        Due.is("pays(0, 1)", x.pays(0, 1), 10);
        Due.is("pays(0, 24)", x.pays(0, 24), 60);
        Due.is("pays(12, 24)", x.pays(12, 24), 36);
    }

    private static void paysOfBachelors() {
        Due.is("pays(0, 24)", Due.under("L000000D001M-00M-01").pays(0, 24), 0);
        Due.is("pays(0, 24) of nobody", new HoundLicence().pays(0, 24), 0);
    }

    private static void spans() {
        Due.edge("19: BAD: a", () -> spansBad(0, 1, 0, 10, 1, 0, MIN, 1, 0, MAX, 1, 0, -1, 1, 0));
        Due.edge("19: BAD: b", () -> spansBad(1, 0, 0, 1, 10, 0, 1, MIN, 0, 1, MAX, 0, 1, -1, 0));
        Due.edge("19: BAD: t", () -> spansBad(1, 1, -1, 1, 1, 100, 1, 1, MIN, 9, 9, MAX));
        Due.edge("19, SPANS: a to b (1 .. 9 each): HOUR t (0 .. 99)", AheadEdgesTest::spansLeastAndMost);
        Due.edge("19, SPANS: is more than: 0; else the other one: 1", AheadEdgesTest::spansAlike);
        Due.edge("19, SPANS: begun again behind a and b together", AheadEdgesTest::spansBegunAgain);
        Due.edge("19: nothing is changed", () -> Twins.unchanged("spans(2, 3, 4)", Twins::lively, x -> x.spans(2, 3, 4)));
    }

    private static void spansBad(int... threes) {
        Supplier<HoundLicence> made = Twins::lively;
        for (int i = 0; i < threes.length; i += 3) {
            int a = threes[i];
            int b = threes[i + 1];
            int t = threes[i + 2];
            Twins.refused("spans(" + a + ", " + b + ", " + t + ")", made, x -> x.spans(a, b, t), Due.BAD);
        }
    }

    private static void spansLeastAndMost() {
        HoundLicence x = new HoundLicence();
        Due.is("spans(1, 1, 0)", x.spans(1, 1, 0), 1);
        Due.is("spans(1, 1, 99)", x.spans(1, 1, 99), 0);
        Due.is("spans(9, 9, 0)", x.spans(9, 9, 0), 1);
        Due.is("spans(9, 9, 98)", x.spans(9, 9, 98), 1);
        Due.is("spans(9, 9, 99)", x.spans(9, 9, 99), 0);
        Due.is("spans(1, 9, 98)", x.spans(1, 9, 98), 1);
        Due.is("spans(1, 9, 99)", x.spans(1, 9, 99), 0);
        Due.is("spans(9, 1, 0)", x.spans(9, 1, 0), 1);
        Due.is("spans(9, 1, 99)", x.spans(9, 1, 99), 0);
    }

    private static void spansAlike() {
        HoundLicence x = new HoundLicence();
        Due.row("spans(1, 2, #)", t -> x.spans(1, 2, t), 1, 1, 0, 1, 1, 0);
        Due.row("spans(2, 1, #)", t -> x.spans(2, 1, t), 1, 0, 0, 1, 0, 0);
    }

    private static void spansBegunAgain() {
        HoundLicence x = new HoundLicence();
        for (int t = 0; t + 12 <= 99; t++) {
            Due.is("spans(5, 7, " + t + " and 12)", x.spans(5, 7, t + 12), x.spans(5, 7, t));
        }
        Due.row("spans(5, 7, #)", t -> x.spans(5, 7, t), 1, 1, 0, 1, 0, 1, 1, 0, 1, 0, 1, 0);
    }
}
