/** Promises 14 to 19: caught, routes, aired, heir, pays, spans. */
public final class AheadTest {
    public static void main(String[] args) {
        caught();
        routesWithoutMen();
        routesPastTheWarden();
        routesWithWhoIsImpounded();
        routesWhileLate();
        routesLeaveAllElse();
        airedPastRivals();
        airedPastTheWarden();
        airedWithWhoIsImpounded();
        heir();
        pays();
        spans();
        Due.end();
    }

    private static void caught() {
        HoundLicence x = Due.under("L051234D001D102M000M111M-40");
        String before = State.all(x);
        int[] due = {0, 2, 2, 2, 6, 6};
        for (int n = 0; n < due.length; n++) {
            Due.is("caught(" + n + ")", x.caught(n), due[n]);
        }
        Due.is("caught(24)", x.caught(24), 6);
        Due.same("caught changes nothing", State.all(x), before);
        x.hour();
        int[] dueThen = {0, 0, 0, 4, 6};
        for (int n = 0; n < dueThen.length; n++) {
            Due.is("caught(" + n + ") at 1", x.caught(n), dueThen[n]);
        }
        HoundLicence y = Due.under("L020000D002M000M000");
        y.leash(1);
        Due.is("caught(2) ahead of LEASH", y.caught(2), 0);
        Due.is("caught(3) when it is LATE", y.caught(3), 1);
        Due.is("caught(24) of one that is leashed", y.caught(24), 1);
    }

    private static void routes(HoundLicence x, int n, int street, int many, int first) {
        String call = "routes(0, " + n + ", " + street + ", ";
        Due.is(call + "0)", x.routes(0, n, street, 0), many);
        Due.is(call + "1)", x.routes(0, n, street, 1), first);
    }

    private static void routesWithoutMen() {
        HoundLicence x = Due.under("L120000D001");
        String before = State.all(x);
        routes(x, 1, 0, 1, 0);
        routes(x, 1, 1, 1, 1);
        routes(x, 1, 2, 0, Due.NONE);
        routes(x, 1, 3, 0, Due.NONE);
        routes(x, 1, 4, 1, 2);
        routes(x, 2, 0, 3, 0);
        routes(x, 2, 1, 2, 1);
        routes(x, 2, 2, 1, 11);
        routes(x, 2, 3, 1, 22);
        routes(x, 2, 4, 2, 2);
        routes(x, 3, 3, 3 + 1, 22);
        routes(x, 7, 2, 266 + 1 + 161, 11);
        int all = 0;
        for (int street = 0; street < 5; street++) {
            all += x.routes(0, 7, street, 0);
        }
        Due.is("routes of 7 to all STREETS", all, 2187);
        Due.same("routes change nothing", State.all(x), before);
        HoundLicence y = Due.under("L120000D401");
        routes(y, 1, 0, 1, 1);
        routes(y, 1, 3, 1, 2);
        routes(y, 1, 4, 1, 0);
    }

    private static void routesPastTheWarden() {
        HoundLicence x = Due.under("L121000D001M001");
        routes(x, 1, 0, 1, 0);
        routes(x, 1, 1, 0, Due.NONE);
        routes(x, 1, 4, 1, 2);
        routes(x, 2, 0, 0, Due.NONE);
        routes(x, 2, 1, 1, 1);
        routes(x, 2, 3, 1, 22);
        routes(x, 2, 4, 2, 2);
        x.leash(0);
        routes(x, 1, 1, 1, 1);
        routes(x, 2, 0, 3, 0);
    }

    private static void routesWithWhoIsImpounded() {
        HoundLicence x = Due.under("L120000D001M001");
        x.hour();
        routes(x, 3, 0, 7, 0);
        routes(x, 4, 0, 0, Due.NONE);
        routes(x, 4, 1, 17, 1);
        x.hour();
        routes(x, 2, 0, 3, 0);
        routes(x, 3, 0, 0, Due.NONE);
        x.hour();
        x.hour();
        routes(x, 1, 0, 0, Due.NONE);
        routes(x, 1, 1, 1, 1);
    }

    private static void routesWhileLate() {
        HoundLicence x = Due.under("L010000D001M000");
        routes(x, 1, 0, 1, 0);
        routes(x, 2, 0, 0, Due.NONE);
        routes(x, 2, 1, 2, 1);
        HoundLicence y = Due.under("L060000D001M000");
        routes(y, 6, 0, 141 + 6 + 6, 0);
        routes(y, 7, 0, 0, Due.NONE);
        Due.hours(y, 5);
        routes(y, 1, 0, 1, 0);
        routes(y, 2, 0, 0, Due.NONE);
        HoundLicence z = Due.under("L000000D001D001M100");
        routes(z, 1, 0, 1, 0);
    }

    private static void routesLeaveAllElse() {
        HoundLicence x = Due.under("L120000D001D001M101M-01");
        routes(x, 2, 0, 3, 0);
        Due.is("give(1, 0)", x.give(1, 0), Due.NONE);
        routes(x, 2, 0, 0, Due.NONE);
    }

    private static void aired(String law, int due) {
        HoundLicence x = Due.under(law);
        Due.is("aired(0) by " + law, x.aired(0), due);
    }

    private static void airedPastRivals() {
        aired("L120000D001", 4);
        aired("L120000D301", 4);
        aired("L120000D001D001", Due.NONE);
        aired("L120000D001D011", 4);
        aired("L120000D001D101", Due.NONE);
        aired("L120000D001D301", Due.NONE);
        aired("L120000D001D311", 4);
        aired("L120000D001D311D321D401", Due.NONE);
        HoundLicence x = Due.under("L120000D001D301D311");
        Due.is("aired(1), whose rival is told ahead", x.aired(1), Due.NONE);
        Due.is("aired(2)", x.aired(2), 4);
    }

    private static void airedPastTheWarden() {
        aired("L120000D001M001", 4);
        aired("L121111D001M001", Due.NONE);
        aired("L121111D001M000", 4);
        aired("L121111D001M-01", 4);
        aired("L121111D001D011M101", 4);
        aired("L121300D001M001", 5);
        aired("L121001D001M001", 5);
        aired("L001111D001M000", Due.NONE);
        aired("L011300D001M000", 4);
        HoundLicence x = Due.under("L121111D001M001");
        x.leash(0);
        String before = State.all(x);
        Due.is("aired(0) with its MAN leashed", x.aired(0), 4);
        Due.same("aired changes nothing", State.all(x), before);
    }

    private static void airedWithWhoIsImpounded() {
        HoundLicence x = Due.under("L121111D101M011");
        x.hour();
        x.lead(0, 1);
        x.lead(0, 1);
        Due.is("aired(0) from 3, free of 1 for three HOURS", x.aired(0), 4);
        x.hour();
        x.hour();
        Due.is("aired(0) from 3, free of 1 for one HOUR", x.aired(0), Due.NONE);
        x.lead(0, 2);
        Due.is("aired(0) from 2, free of 1 for one HOUR", x.aired(0), 4);
    }

    private static void heirs(String law, int... due) {
        HoundLicence x = Due.under(law);
        String before = State.all(x);
        for (int dog = 0; dog < due.length; dog++) {
            Due.is("heir(" + dog + ") by " + law, x.heir(dog), due[dog]);
        }
        Due.same("heir changes nothing", State.all(x), before);
    }

    private static void heir() {
        heirs("L120000D001", Due.NONE);
        heirs("L120000D001D001", Due.NONE, Due.NONE);
        heirs("L120000D001D001P10", 1, 0);
        heirs("L120000D001D001D001D001P01P12P23", 1, 0, 1, 2);
        heirs("L120000D001D001D011D091P01P12P23", 1, 2, 3, 2);
        heirs("L120000D011D051D071D071P01P02P03", 2, 0, 0, 0);
        heirs("L120000D011D051D071D091P01P02", 2, 0, 0, Due.NONE);
        heirs("L120000D011D051D071D091P30P01P02", 3, 0, 0, 0);
        heirs("L120000D011D011D011D091P20P21", 2, 2, 0, Due.NONE);
        heirs("L120000D001D001D001D001P01P32", 1, 0, 3, 2);
    }

    private static void pays() {
        HoundLicence x = Due.under("L120000D002M000M000M-00");
        String before = State.all(x);
        int[][] due = {{12, 24, 0}, {0, 0, 0}, {0, 1, 4}, {0, 4, 4}, {0, 5, 8}, {2, 2, 0}, {2, 3, 4}, {0, 24, 24},
            {11, 11, 0}, {11, 12, 4}, {11, 24, 8}};
        for (int[] row : due) {
            Due.is("pays(" + row[0] + ", " + row[1] + ")", x.pays(row[0], row[1]), row[2]);
        }
        Due.same("pays changes nothing", State.all(x), before);
        HoundLicence z = Due.under("L121000D001M001");
        Due.is("pays(12, 1) with THE WARDEN elsewhere", z.pays(12, 1), 0);
        Due.is("pays(12, 2)", z.pays(12, 2), 2);
        HoundLicence y = Due.under("L000000D001D011M001M100");
        Due.is("hour()", y.hour(), 3);
        Due.is("pays(0, 3) from now on", y.pays(0, 3), 0);
        Due.is("pays(0, 4) from now on", y.pays(0, 4), 4);
        Due.is("pays(12, 4) by song alone", y.pays(12, 4), 2);
    }

    private static void spans() {
        HoundLicence x = new HoundLicence();
        String before = State.all(x);
        int[] due = {1, 1, 0, 1, 0, 1, 1, 0, 1, 0};
        for (int t = 0; t < due.length; t++) {
            Due.is("spans(2, 3, " + t + ")", x.spans(2, 3, t), due[t]);
        }
        Due.is("spans(1, 1, 0)", x.spans(1, 1, 0), 1);
        Due.is("spans(1, 1, 1)", x.spans(1, 1, 1), 0);
        Due.is("spans(9, 1, 0)", x.spans(9, 1, 0), 1);
        Due.is("spans(9, 1, 1)", x.spans(9, 1, 1), 0);
        Due.is("spans(1, 9, 98)", x.spans(1, 9, 98), 1);
        Due.is("spans(1, 9, 99)", x.spans(1, 9, 99), 0);
        for (int a = 1; a <= 9; a++) {
            for (int b = 1; b <= 9; b++) {
                HoundLicence y = new HoundLicence();
                int firsts = 0;
                for (int t = 0; t < a + b; t++) {
                    firsts += y.spans(a, b, t) == 0 ? 1 : 0;
                }
                Due.is("spans of the first one by " + a + " to " + b, firsts, a);
            }
        }
        Due.same("spans changes nothing", State.all(x), before);
    }
}
